/-! THE START: the two new objects stand in one state; the law from its entry -/
section ST
variable {l : Launch}
def zW7 : zW := [.inr (7, [.ref 1, .ref 8, .ref 16, .ref 25, .ref 29, .ref 36, .ref 44, .ref 74, .int 0, .int 0]), .inr (5, [.int 1, .int 0, .ref 2, .ref 3, .ref 4, .ref 5, .ref 6, .ref 7]), .inl (0, (8, .inl (fun _ => 0))), .inl (0, (8, .inl (fun _ => 0))), .inl (0, (8, .inl (fun _ => 0))), .inl (0, (8, .inl (fun _ => 0))), .inl (0, (8, .inl (fun _ => 0))), .inl (0, (8, .inl (fun _ => 0))), .inr (6, [.ref 1, .int 0, .ref 9, .ref 10, .ref 11, .ref 12, .ref 13, .ref 14, .ref 15]), .inl (0, (8, .inl (fun _ => 0))), .inl (0, (8, .inl (fun _ => 0))), .inl (0, (8, .inl (fun _ => 0))), .inl (0, (3, .inl (fun _ => 0))), .inl (0, (256, .inl (fun _ => 0))), .inl (0, (256, .inl (fun _ => 0))), .inl (0, (256, .inl (fun _ => 0))), .inr (0, [.int (-1), .ref 17, .ref 18, .ref 1, .ref 8, .ref 22, .ref 19, .ref 20, .ref 21, .int 400]), .inl (0, (8, .inl (fun _ => 0))), .inl (0, (8, .inl (fun _ => 0))), .inl (0, (8, .inl (fun _ => 0))), .inl (0, (8, .inl (fun _ => 0))), .inl (0, (8, .inl (fun _ => 0))), .inr (4, [.ref 1, .ref 23, .ref 24]), .inl (0, (8, .inl (fun _ => 0))), .inl (0, (3, .inl (fun _ => 0))), .inr (1, [.ref 1, .ref 26, .long 0]), .inr (4, [.ref 1, .ref 27, .ref 28]), .inl (0, (8, .inl (fun _ => 0))), .inl (0, (3, .inl (fun _ => 0))), .inr (5, [.int 1, .int 0, .ref 30, .ref 31, .ref 32, .ref 33, .ref 34, .ref 35]), .inl (0, (8, .inl (fun _ => 0))), .inl (0, (8, .inl (fun _ => 0))), .inl (0, (8, .inl (fun _ => 0))), .inl (0, (8, .inl (fun _ => 0))), .inl (0, (8, .inl (fun _ => 0))), .inl (0, (8, .inl (fun _ => 0))), .inr (6, [.ref 29, .int 0, .ref 37, .ref 38, .ref 39, .ref 40, .ref 41, .ref 42, .ref 43]), .inl (0, (8, .inl (fun _ => 0))), .inl (0, (8, .inl (fun _ => 0))), .inl (0, (8, .inl (fun _ => 0))), .inl (0, (3, .inl (fun _ => 0))), .inl (0, (256, .inl (fun _ => 0))), .inl (0, (256, .inl (fun _ => 0))), .inl (0, (256, .inl (fun _ => 0))), .inr (2, [.int 0, .ref 45]), .inl (5, (4, .inr (.inr (.inr (.inr (fun j => ((va_up (va_up (va_up (va_up (fun _ => none) 0 (some 2)) 1 (some 9)) 2 (some 16)) 3 (some 23)) j).map (zix [44, 45, 46, 47, 48, 49, 50, 51, 52, 53, 54, 55, 56, 57, 58, 59, 60, 61, 62, 63, 64, 65, 66, 67, 68, 69, 70, 71, 72, 73]))))))), .inr (5, [.int 1, .int 0, .ref 47, .ref 48, .ref 49, .ref 50, .ref 51, .ref 52]), .inl (0, (8, .inl (fun _ => 0))), .inl (0, (8, .inl (fun _ => 0))), .inl (0, (8, .inl (fun _ => 0))), .inl (0, (8, .inl (fun _ => 0))), .inl (0, (8, .inl (fun _ => 0))), .inl (0, (8, .inl (fun _ => 0))), .inr (5, [.int 1, .int 0, .ref 54, .ref 55, .ref 56, .ref 57, .ref 58, .ref 59]), .inl (0, (8, .inl (fun _ => 0))), .inl (0, (8, .inl (fun _ => 0))), .inl (0, (8, .inl (fun _ => 0))), .inl (0, (8, .inl (fun _ => 0))), .inl (0, (8, .inl (fun _ => 0))), .inl (0, (8, .inl (fun _ => 0))), .inr (5, [.int 1, .int 0, .ref 61, .ref 62, .ref 63, .ref 64, .ref 65, .ref 66]), .inl (0, (8, .inl (fun _ => 0))), .inl (0, (8, .inl (fun _ => 0))), .inl (0, (8, .inl (fun _ => 0))), .inl (0, (8, .inl (fun _ => 0))), .inl (0, (8, .inl (fun _ => 0))), .inl (0, (8, .inl (fun _ => 0))), .inr (5, [.int 1, .int 0, .ref 68, .ref 69, .ref 70, .ref 71, .ref 72, .ref 73]), .inl (0, (8, .inl (fun _ => 0))), .inl (0, (8, .inl (fun _ => 0))), .inl (0, (8, .inl (fun _ => 0))), .inl (0, (8, .inl (fun _ => 0))), .inl (0, (8, .inl (fun _ => 0))), .inl (0, (8, .inl (fun _ => 0))), .inr (3, [.int 0, .int 0, .int 0, .int 0, .int 0, .int 0, .int 0, .int 0, .ref 75, .int 0, .int (-1)]), .inl (3, (100, .inl (fun _ => 0)))]
theorem i_X7w (hfl : l.stackTraces = false) : CanI l yX7_init wsX7_init 3 75 2142 [.ref 0] [.inr (7, [.null, .null, .null, .null, .null, .null, .null, .null, .int 0, .int 0])] (fun w' => w' = zW7) := i_X7 hfl
theorem hfx_eq : (fun j => ((va_up (va_up (va_up (va_up (fun _ => none) 0 (some 2)) 1 (some 9)) 2 (some 16)) 3 (some 23)) j).map (zix [44, 45, 46, 47, 48, 49, 50, 51, 52, 53, 54, 55, 56, 57, 58, 59, 60, 61, 62, 63, 64, 65, 66, 67, 68, 69, 70, 71, 72, 73])) = (fun j => ((va_up (va_up (va_up (va_up (fun _ => none) 0 (some 2)) 1 (some 9)) 2 (some 16)) 3 (some 23)) j).map (zix [44, 45, 46, 47, 48, 49, 50, 51, 52, 53, 54, 55, 56, 57, 58, 59, 60, 61, 62, 63, 64, 65, 66, 67, 68, 69, 70, 71, 72, 73, 1, 2, 3, 4, 5, 6, 7])) := by
  funext j
  show Option.map (zix [44, 45, 46, 47, 48, 49, 50, 51, 52, 53, 54, 55, 56, 57, 58, 59, 60, 61, 62, 63, 64, 65, 66, 67, 68, 69, 70, 71, 72, 73]) (((va_up (va_up (va_up (va_up (fun _ => none) 0 (some 2)) 1 (some 9)) 2 (some 16)) 3 (some 23)) : Nat → Option Nat) j) = Option.map (zix [44, 45, 46, 47, 48, 49, 50, 51, 52, 53, 54, 55, 56, 57, 58, 59, 60, 61, 62, 63, 64, 65, 66, 67, 68, 69, 70, 71, 72, 73, 1, 2, 3, 4, 5, 6, 7]) (((va_up (va_up (va_up (va_up (fun _ => none) 0 (some 2)) 1 (some 9)) 2 (some 16)) 3 (some 23)) : Nat → Option Nat) j)
  cases hv : ((va_up (va_up (va_up (va_up (fun _ => none) 0 (some 2)) 1 (some 9)) 2 (some 16)) 3 (some 23)) : Nat → Option Nat) j with
  | none => rfl
  | some v =>
    have := (by decide : ∀ v, v < 26 → zix [44, 45, 46, 47, 48, 49, 50, 51, 52, 53, 54, 55, 56, 57, 58, 59, 60, 61, 62, 63, 64, 65, 66, 67, 68, 69, 70, 71, 72, 73] v = zix [44, 45, 46, 47, 48, 49, 50, 51, 52, 53, 54, 55, 56, 57, 58, 59, 60, 61, 62, 63, 64, 65, 66, 67, 68, 69, 70, 71, 72, 73, 1, 2, 3, 4, 5, 6, 7] v) v (hfb4 (m := 26) (by decide) j v hv)
    show some (zix [44, 45, 46, 47, 48, 49, 50, 51, 52, 53, 54, 55, 56, 57, 58, 59, 60, 61, 62, 63, 64, 65, 66, 67, 68, 69, 70, 71, 72, 73] v) = some (zix [44, 45, 46, 47, 48, 49, 50, 51, 52, 53, 54, 55, 56, 57, 58, 59, 60, 61, 62, 63, 64, 65, 66, 67, 68, 69, 70, 71, 72, 73, 1, 2, 3, 4, 5, 6, 7] v)
    rw [this]
set_option maxRecDepth 100000 in
theorem zW7_eq : zW7 = zFa 0 0 1 0 (fun _ => 0) (fun _ => 0) (fun _ => 0) (fun _ => 0) (fun _ => 0) (fun _ => 0) 0 (fun _ => 0) (fun _ => 0) (fun _ => 0) (fun _ => 0) (fun _ => 0) (fun _ => 0) (fun _ => 0) (-1) 400 (fun _ => 0) (fun _ => 0) (fun _ => 0) (fun _ => 0) (fun _ => 0) (fun _ => 0) (fun _ => 0) 0 (fun _ => 0) (fun _ => 0) 1 0 (fun _ => 0) (fun _ => 0) (fun _ => 0) (fun _ => 0) (fun _ => 0) (fun _ => 0) 0 (fun _ => 0) (fun _ => 0) (fun _ => 0) (fun _ => 0) (fun _ => 0) (fun _ => 0) (fun _ => 0) 0 (va_up (va_up (va_up (va_up (fun _ => none) 0 (some 2)) 1 (some 9)) 2 (some 16)) 3 (some 23)) (fun _ => (1, 0, (fun _ => 0), (fun _ => 0), (fun _ => 0), (fun _ => 0), (fun _ => 0), (fun _ => 0))) 0 0 0 0 0 0 0 0 0 (-1) (fun _ => 0) := by
  unfold zW7
  rw [hfx_eq]
  rfl
theorem zcE_r {m : Nat} {ix : List Nat} (hi : ∀ i ∈ ix, i < m) (h0 : 0 < m) (e : zE) : zclE m (zrE ix e) := by
  have hz : ∀ j, zix ix j < m := fun j => by
    by_cases hj : j < ix.length
    · rw [zix_get (List.getElem?_eq_getElem hj)]
      exact hi _ (List.getElem_mem hj)
    · rw [zix_out (Nat.not_lt.mp hj)]
      exact h0
  match e with
  | .inl (t, (n, .inr (.inr (.inr (.inr f))))) =>
    intro j x hx
    cases hf : f j with
    | none =>
      have hx : Option.map (zix ix) (f j) = some x := hx
      rw [hf] at hx
      cases hx
    | some v =>
      have hx : Option.map (zix ix) (f j) = some x := hx
      rw [hf] at hx
      have hx : zix ix v = x := Option.some.inj hx
      rw [← hx]
      exact hz v
  | .inl (_, (_, .inl _)) => trivial
  | .inl (_, (_, .inr (.inl _))) => trivial
  | .inl (_, (_, .inr (.inr (.inl _)))) => trivial
  | .inl (_, (_, .inr (.inr (.inr (.inl _))))) => trivial
  | .inr (c, fs) =>
    intro v hv
    obtain ⟨u, -, rfl⟩ := List.mem_map.mp hv
    cases u with
    | ref j => exact hz j
    | _ => trivial
theorem zcW_r {m : Nat} {ix : List Nat} (hi : ∀ i ∈ ix, i < m) (h0 : 0 < m) (w : zW) : zclW m (w.map (zrE ix)) := fun e he => by
  obtain ⟨u, -, rfl⟩ := List.mem_map.mp he
  exact zcE_r hi h0 u
theorem zcW_app {m : Nat} {a b : zW} (ha : zclW m a) (hb : zclW m b) : zclW m (a ++ b) := fun e he => (List.mem_append.mp he).elim (ha e) (hb e)
theorem CanI.last {y : MethodName} {ws : List Cond} {d mc ms : Nat} {A : zW} {c e : zE} {r : zW} (h : CanI l y ws d mc ms [.ref 0] [c] (fun w' => w' = e :: r)) (hc : zrE [A.length] c = c) (hcl : zclW (A.length + 1) (A ++ [c])) : CanI l y ws d mc ms [.ref A.length] (A ++ [c]) (fun w' => w' = A ++ (e :: r).map (zrE (zrg A.length (r.length + 1)))) := by
  have hl : (A ++ [c]).length = A.length + 1 := by rw [List.length_append]; rfl
  refine CanI.fe h [A.length] ⟨by simp, rfl, fun j k e hj he => ?_⟩ (by rw [hl]; exact hcl) (by rw [hl]; omega) rfl ?_
  · cases j with
    | zero =>
      have hk : A.length = k := Option.some.inj hj
      have he : c = e := Option.some.inj he
      subst hk
      subst he
      rw [hc, ← zg_eq]
      exact z_zg_app c [] A
    | succ j => cases hj
  · show zput ((A ++ [c]).set A.length (zrE (zix9 [A.length] (A ++ [c]).length (r.length + 1)) e)) [] r (zrE (zix9 [A.length] (A ++ [c]).length (r.length + 1))) ++ r.map (zrE (zix9 [A.length] (A ++ [c]).length (r.length + 1))) = _
    rw [zput_nil, z_set_app, List.append_assoc, hl]
    rfl
variable {K : zK} {nx : zNx} {ls : zPL} {st : List Value} {w : zW} {k n : Nat}
theorem zn_newL {ci N MC MS : Nat} {fs : List Value} (a : Nat) (ha : w.length = a) (h0 : a < 1000) (h2 : zclW a w) (h3 : ls.all (zlv a) = true) (h4 : st.all (zcV a) = true) (h5 : k + 1 ≤ MC ∧ n + N ≤ MS) (h : nx ls (.ref a :: st) (w ++ [.inr (ci, fs)]) (k + 1) (n + N)) : oNewL ci N fs MC MS K nx ls st w k n := by
  subst ha
  exact ⟨⟨h0, h2, h3, zcS_of h4, h5.1, h5.2⟩, h⟩
theorem zn_callIL {y : MethodName} {wsy : List Cond} {na d MC MS : Nat} {av rest : List Value} {d' mc' ms' : Nat} {W' : zW} (hc : CanI l y wsy d' mc' ms' av w (fun w' => w' = W')) (hp : zpop na st [] = some (av, rest)) (hs : zShort rest = true) (hv : ∃ a as, av = Value.ref a :: as) (a : Nat) (ha : w.length = a) (h2 : zclW a w) (h3 : ls.all (zlv a) = true) (h4 : rest.all (zcV a) = true) (hr : d' + 1 ≤ d ∧ k + mc' ≤ MC ∧ n + ms' ≤ MS) (hW : W'.length ≤ 1000) (h : nx ls rest W' (k + mc') (n + ms')) : oCallIL l y wsy na d MC MS K nx ls st w k n := by
  subst ha
  unfold oCallIL
  rw [hp]
  exact ⟨⟨hs, hv, h2, h3, zcS_of h4⟩, d', mc', ms', hr, CanI.mono hc (fun w' e => by rw [e]; exact ⟨hW, h⟩)⟩
theorem zW7_c : ∃ e r, zW7 = e :: r ∧ r.length = 75 := ⟨_, _, rfl, rfl⟩
end ST
