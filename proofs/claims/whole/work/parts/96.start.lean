/-! THE START: the two new objects stand in one state; the law from its entry -/
section ST
variable {l : Launch}
def zW7 : zW := [.inr (7, [.ref 1, .ref 8, .ref 16, .ref 25, .ref 29, .ref 36, .ref 44, .ref 74, .int 0, .int 0]), .inr (5, [.int 1, .int 0, .ref 2, .ref 3, .ref 4, .ref 5, .ref 6, .ref 7]), .inl (0, (8, .inl (fun _ => 0))), .inl (0, (8, .inl (fun _ => 0))), .inl (0, (8, .inl (fun _ => 0))), .inl (0, (8, .inl (fun _ => 0))), .inl (0, (8, .inl (fun _ => 0))), .inl (0, (8, .inl (fun _ => 0))), .inr (6, [.ref 1, .int 0, .ref 9, .ref 10, .ref 11, .ref 12, .ref 13, .ref 14, .ref 15]), .inl (0, (8, .inl (fun _ => 0))), .inl (0, (8, .inl (fun _ => 0))), .inl (0, (8, .inl (fun _ => 0))), .inl (0, (3, .inl (fun _ => 0))), .inl (0, (256, .inl (fun _ => 0))), .inl (0, (256, .inl (fun _ => 0))), .inl (0, (256, .inl (fun _ => 0))), .inr (0, [.int (-1), .ref 17, .ref 18, .ref 1, .ref 8, .ref 22, .ref 19, .ref 20, .ref 21, .int 400]), .inl (0, (8, .inl (fun _ => 0))), .inl (0, (8, .inl (fun _ => 0))), .inl (0, (8, .inl (fun _ => 0))), .inl (0, (8, .inl (fun _ => 0))), .inl (0, (8, .inl (fun _ => 0))), .inr (4, [.ref 1, .ref 23, .ref 24]), .inl (0, (8, .inl (fun _ => 0))), .inl (0, (3, .inl (fun _ => 0))), .inr (1, [.ref 1, .ref 26, .long 0]), .inr (4, [.ref 1, .ref 27, .ref 28]), .inl (0, (8, .inl (fun _ => 0))), .inl (0, (3, .inl (fun _ => 0))), .inr (5, [.int 1, .int 0, .ref 30, .ref 31, .ref 32, .ref 33, .ref 34, .ref 35]), .inl (0, (8, .inl (fun _ => 0))), .inl (0, (8, .inl (fun _ => 0))), .inl (0, (8, .inl (fun _ => 0))), .inl (0, (8, .inl (fun _ => 0))), .inl (0, (8, .inl (fun _ => 0))), .inl (0, (8, .inl (fun _ => 0))), .inr (6, [.ref 29, .int 0, .ref 37, .ref 38, .ref 39, .ref 40, .ref 41, .ref 42, .ref 43]), .inl (0, (8, .inl (fun _ => 0))), .inl (0, (8, .inl (fun _ => 0))), .inl (0, (8, .inl (fun _ => 0))), .inl (0, (3, .inl (fun _ => 0))), .inl (0, (256, .inl (fun _ => 0))), .inl (0, (256, .inl (fun _ => 0))), .inl (0, (256, .inl (fun _ => 0))), .inr (2, [.int 0, .ref 45]), .inl (5, (4, .inr (.inr (.inr (.inr (fun j => ((va_up (va_up (va_up (va_up (fun _ => none) 0 (some 2)) 1 (some 9)) 2 (some 16)) 3 (some 23)) j).map (zix [44, 45, 46, 47, 48, 49, 50, 51, 52, 53, 54, 55, 56, 57, 58, 59, 60, 61, 62, 63, 64, 65, 66, 67, 68, 69, 70, 71, 72, 73]))))))), .inr (5, [.int 1, .int 0, .ref 47, .ref 48, .ref 49, .ref 50, .ref 51, .ref 52]), .inl (0, (8, .inl (fun _ => 0))), .inl (0, (8, .inl (fun _ => 0))), .inl (0, (8, .inl (fun _ => 0))), .inl (0, (8, .inl (fun _ => 0))), .inl (0, (8, .inl (fun _ => 0))), .inl (0, (8, .inl (fun _ => 0))), .inr (5, [.int 1, .int 0, .ref 54, .ref 55, .ref 56, .ref 57, .ref 58, .ref 59]), .inl (0, (8, .inl (fun _ => 0))), .inl (0, (8, .inl (fun _ => 0))), .inl (0, (8, .inl (fun _ => 0))), .inl (0, (8, .inl (fun _ => 0))), .inl (0, (8, .inl (fun _ => 0))), .inl (0, (8, .inl (fun _ => 0))), .inr (5, [.int 1, .int 0, .ref 61, .ref 62, .ref 63, .ref 64, .ref 65, .ref 66]), .inl (0, (8, .inl (fun _ => 0))), .inl (0, (8, .inl (fun _ => 0))), .inl (0, (8, .inl (fun _ => 0))), .inl (0, (8, .inl (fun _ => 0))), .inl (0, (8, .inl (fun _ => 0))), .inl (0, (8, .inl (fun _ => 0))), .inr (5, [.int 1, .int 0, .ref 68, .ref 69, .ref 70, .ref 71, .ref 72, .ref 73]), .inl (0, (8, .inl (fun _ => 0))), .inl (0, (8, .inl (fun _ => 0))), .inl (0, (8, .inl (fun _ => 0))), .inl (0, (8, .inl (fun _ => 0))), .inl (0, (8, .inl (fun _ => 0))), .inl (0, (8, .inl (fun _ => 0))), .inr (3, [.int 0, .int 0, .int 0, .int 0, .int 0, .int 0, .int 0, .int 0, .ref 75, .int 0, .int (-1)]), .inl (3, (100, .inl (fun _ => 0)))]
def zW8 : zW := zMo 0 1 0 0 0 0 0 0 0 0 (fun _ => 0) (fun _ => 0) (fun _ => 0) (fun _ => 0) (fun _ => 0) (fun _ => 0) (fun _ => 0) (fun _ => 0) (fun _ => 0) (fun _ => 0) (fun _ => 0) (fun _ => 0) (fun _ => 0) (fun _ => 0) (fun _ => 0) (fun _ => 0) (fun _ => 0) (fun _ => 0) (fun _ => 0) (fun _ => 0)
theorem i_X7w (hfl : l.stackTraces = false) : CanI l yX7_init wsX7_init 3 75 2142 [.ref 0] [.inr (7, [.null, .null, .null, .null, .null, .null, .null, .null, .int 0, .int 0])] (fun w' => w' = zW7) := i_X7 hfl
theorem i_X8w (hfl : l.stackTraces = false) : CanI l yX8_init wsX8_init 1 20 1646 [.ref 0] [.inr (8, [.int 0, .int 0, .int 0, .null, .null, .null, .null, .null, .null, .int 0, .null, .int 0, .null, .null, .null, .null, .null, .null, .null, .int 0, .null, .null, .null, .null, .long 0, .null, .int 0, .int 0, .int 0, .null])] (fun w' => w' = zW8) := i_X8 hfl
theorem hfx_eq : (fun j => ((va_up (va_up (va_up (va_up (fun _ => none) 0 (some 2)) 1 (some 9)) 2 (some 16)) 3 (some 23)) j).map (zix [44, 45, 46, 47, 48, 49, 50, 51, 52, 53, 54, 55, 56, 57, 58, 59, 60, 61, 62, 63, 64, 65, 66, 67, 68, 69, 70, 71, 72, 73])) = (fun j => ((va_up (va_up (va_up (va_up (fun _ => none) 0 (some 2)) 1 (some 9)) 2 (some 16)) 3 (some 23)) j).map (zix [44, 45, 46, 47, 48, 49, 50, 51, 52, 53, 54, 55, 56, 57, 58, 59, 60, 61, 62, 63, 64, 65, 66, 67, 68, 69, 70, 71, 72, 73, 1, 2, 3, 4, 5, 6, 7])) := by
  funext j
  show Option.map (zix [44, 45, 46, 47, 48, 49, 50, 51, 52, 53, 54, 55, 56, 57, 58, 59, 60, 61, 62, 63, 64, 65, 66, 67, 68, 69, 70, 71, 72, 73]) (((va_up (va_up (va_up (va_up (fun _ => none) 0 (some 2)) 1 (some 9)) 2 (some 16)) 3 (some 23)) : Nat → Option Nat) j) = Option.map (zix [44, 45, 46, 47, 48, 49, 50, 51, 52, 53, 54, 55, 56, 57, 58, 59, 60, 61, 62, 63, 64, 65, 66, 67, 68, 69, 70, 71, 72, 73, 1, 2, 3, 4, 5, 6, 7]) (((va_up (va_up (va_up (va_up (fun _ => none) 0 (some 2)) 1 (some 9)) 2 (some 16)) 3 (some 23)) : Nat → Option Nat) j)
  cases hv : ((va_up (va_up (va_up (va_up (fun _ => none) 0 (some 2)) 1 (some 9)) 2 (some 16)) 3 (some 23)) : Nat → Option Nat) j with
  | none => rfl
  | some v =>
    have := (by decide : ∀ v, v < 26 → zix [44, 45, 46, 47, 48, 49, 50, 51, 52, 53, 54, 55, 56, 57, 58, 59, 60, 61, 62, 63, 64, 65, 66, 67, 68, 69, 70, 71, 72, 73] v = zix [44, 45, 46, 47, 48, 49, 50, 51, 52, 53, 54, 55, 56, 57, 58, 59, 60, 61, 62, 63, 64, 65, 66, 67, 68, 69, 70, 71, 72, 73, 1, 2, 3, 4, 5, 6, 7] v) v (hfb4 (m := 26) (by decide) j v hv)
    show some (zix [44, 45, 46, 47, 48, 49, 50, 51, 52, 53, 54, 55, 56, 57, 58, 59, 60, 61, 62, 63, 64, 65, 66, 67, 68, 69, 70, 71, 72, 73] v) = some (zix [44, 45, 46, 47, 48, 49, 50, 51, 52, 53, 54, 55, 56, 57, 58, 59, 60, 61, 62, 63, 64, 65, 66, 67, 68, 69, 70, 71, 72, 73, 1, 2, 3, 4, 5, 6, 7] v)
    rw [this]
set_option maxRecDepth 100000 in
theorem zW7_eq : zW7 = zFa 0 0 1 0 (fun _ => 0) (fun _ => 0) (fun _ => 0) (fun _ => 0) (fun _ => 0) (fun _ => 0) 0 (fun _ => 0) (fun _ => 0) (fun _ => 0) (fun _ => 0) (fun _ => 0) (fun _ => 0) (fun _ => 0) (-1) 400 (fun _ => 0) (fun _ => 0) (fun _ => 0) (fun _ => 0) (fun _ => 0) (fun _ => 0) (fun _ => 0) 0 (fun _ => 0) (fun _ => 0) 1 0 (fun _ => 0) (fun _ => 0) (fun _ => 0) (fun _ => 0) (fun _ => 0) (fun _ => 0) 0 (fun _ => 0) (fun _ => 0) (fun _ => 0) (fun _ => 0) (fun _ => 0) (fun _ => 0) (fun _ => 0) 0 (va_up (va_up (va_up (va_up (fun _ => none) 0 (some 2)) 1 (some 9)) 2 (some 16)) 3 (some 23)) (fun _ => (1, 0, (fun _ => 0), (fun _ => 0), (fun _ => 0), (fun _ => 0), (fun _ => 0), (fun _ => 0))) 0 0 0 0 0 0 0 0 0 (-1) (fun _ => 0) := by
  unfold zW7
  rw [hfx_eq]
  rfl
theorem Jr_start : Jr 0 zW7 zW8 := by
  refine ⟨tsNone, 1, [], 0, fun _ => 0, ?_, ?_, tsNone_fine (by decide) (by decide), ⟨Nat.zero_le _, fun x hx => absurd hx List.not_mem_nil⟩, ⟨Nat.zero_le _, fun k hk => absurd hk (Nat.not_lt_zero _)⟩⟩
  · refine ⟨0, 0, (fun _ => 0), (fun _ => 0), (fun _ => 0), (fun _ => 0), (fun _ => 0), (fun _ => 0), 0, (fun _ => 0), (fun _ => 0), (fun _ => 0), (fun _ => 0), (fun _ => 0), (fun _ => 0), (fun _ => 0), (-1), 400, (fun _ => 0), (fun _ => 0), (fun _ => 0), (fun _ => 0), (fun _ => 0), (fun _ => 0), (fun _ => 0), 0, (fun _ => 0), (fun _ => 0), 1, 0, (fun _ => 0), (fun _ => 0), (fun _ => 0), (fun _ => 0), (fun _ => 0), (fun _ => 0), 0, (fun _ => 0), (fun _ => 0), (fun _ => 0), (fun _ => 0), (fun _ => 0), (fun _ => 0), (fun _ => 0), (va_up (va_up (va_up (va_up (fun _ => none) 0 (some 2)) 1 (some 9)) 2 (some 16)) 3 (some 23)), (fun _ => (1, 0, (fun _ => 0), (fun _ => 0), (fun _ => 0), (fun _ => 0), (fun _ => 0), (fun _ => 0))), 0, 0, 0, 0, 0, 0, 0, 0, (-1), (fun _ => 0), zW7_eq, fun t ht => absurd ht (Nat.not_lt_zero _), Or.inl rfl, Or.inl rfl, ⟨0, by decide, ?_, fun k x hk => (nomatch hk)⟩, fun k hk => absurd hk (Nat.not_lt_zero _)⟩
    intro k hk
    rcases (show k = 0 ∨ k = 1 ∨ k = 2 ∨ k = 3 by omega) with rfl | rfl | rfl | rfl <;> rfl
  · exact ⟨0, 0, 0, 0, (fun _ => 0), (fun _ => 0), (fun _ => 0), ⟨0, (fun _ => 0), (fun _ => 0), (fun _ => 0), (fun _ => 0), (fun _ => 0), (fun _ => 0), (fun _ => 0), (fun _ => 0), (fun _ => 0), (fun _ => 0), (fun _ => 0), (fun _ => 0), (fun _ => 0), (fun _ => 0), (fun _ => 0), (fun _ => 0), (fun _ => 0), rfl, fun t ht => absurd ht (Nat.not_lt_zero _)⟩, fun k x hk => (nomatch hk), fun k hk => absurd hk (Nat.not_lt_zero _)⟩
theorem zcE_r {m : Nat} {ix : List Nat} (hi : ∀ i ∈ ix, i < m) (h0 : 0 < m) (e : zE) : zclE m (zrE ix e) := by
  have hz : ∀ j, zix ix j < m := fun j => by
    by_cases hj : j < ix.length
    · rw [zix_get (List.getElem?_eq_getElem hj)]
      exact hi _ (List.getElem_mem hj)
    · rw [zix_out (Nat.not_lt.mp hj)]
      exact h0
  match e with
  | .inl (t, (n, .inr (.inr (.inr (.inr f))))) =>
    intro j x hx
    cases hf : f j with
    | none =>
      have hx : Option.map (zix ix) (f j) = some x := hx
      rw [hf] at hx
      cases hx
    | some v =>
      have hx : Option.map (zix ix) (f j) = some x := hx
      rw [hf] at hx
      have hx : zix ix v = x := Option.some.inj hx
      rw [← hx]
      exact hz v
  | .inl (_, (_, .inl _)) => trivial
  | .inl (_, (_, .inr (.inl _))) => trivial
  | .inl (_, (_, .inr (.inr (.inl _)))) => trivial
  | .inl (_, (_, .inr (.inr (.inr (.inl _))))) => trivial
  | .inr (c, fs) =>
    intro v hv
    obtain ⟨u, -, rfl⟩ := List.mem_map.mp hv
    cases u with
    | ref j => exact hz j
    | _ => trivial
theorem zcW_r {m : Nat} {ix : List Nat} (hi : ∀ i ∈ ix, i < m) (h0 : 0 < m) (w : zW) : zclW m (w.map (zrE ix)) := fun e he => by
  obtain ⟨u, -, rfl⟩ := List.mem_map.mp he
  exact zcE_r hi h0 u
theorem zcW_app {m : Nat} {a b : zW} (ha : zclW m a) (hb : zclW m b) : zclW m (a ++ b) := fun e he => (List.mem_append.mp he).elim (ha e) (hb e)
theorem CanI.last {y : MethodName} {ws : List Cond} {d mc ms : Nat} {A : zW} {c e : zE} {r : zW} (h : CanI l y ws d mc ms [.ref 0] [c] (fun w' => w' = e :: r)) (hc : zrE [A.length] c = c) (hcl : zclW (A.length + 1) (A ++ [c])) : CanI l y ws d mc ms [.ref A.length] (A ++ [c]) (fun w' => w' = A ++ (e :: r).map (zrE (zrg A.length (r.length + 1)))) := by
  have hl : (A ++ [c]).length = A.length + 1 := by rw [List.length_append]; rfl
  refine CanI.fe h [A.length] ⟨by simp, rfl, fun j k e hj he => ?_⟩ (by rw [hl]; exact hcl) (by rw [hl]; omega) rfl ?_
  · cases j with
    | zero =>
      have hk : A.length = k := Option.some.inj hj
      have he : c = e := Option.some.inj he
      subst hk
      subst he
      rw [hc, ← zg_eq]
      exact z_zg_app c [] A
    | succ j => cases hj
  · show zput ((A ++ [c]).set A.length (zrE (zix9 [A.length] (A ++ [c]).length (r.length + 1)) e)) [] r (zrE (zix9 [A.length] (A ++ [c]).length (r.length + 1))) ++ r.map (zrE (zix9 [A.length] (A ++ [c]).length (r.length + 1))) = _
    rw [zput_nil, z_set_app, List.append_assoc, hl]
    rfl
variable {K : zK} {nx : zNx} {ls : zPL} {st : List Value} {w : zW} {k n : Nat}
theorem zn_newL {ci N MC MS : Nat} {fs : List Value} (a : Nat) (ha : w.length = a) (h0 : a < 1000) (h2 : zclW a w) (h3 : ls.all (zlv a) = true) (h4 : st.all (zcV a) = true) (h5 : k + 1 ≤ MC ∧ n + N ≤ MS) (h : nx ls (.ref a :: st) (w ++ [.inr (ci, fs)]) (k + 1) (n + N)) : oNewL ci N fs MC MS K nx ls st w k n := by
  subst ha
  exact ⟨⟨h0, h2, h3, zcS_of h4, h5.1, h5.2⟩, h⟩
theorem zn_JL {N MC MS : Nat} {i : Int32} (a : Nat) (ha : w.length = a) (h1 : ¬ i < 0 ∧ i.toNatClampNeg = N ∧ N ≤ 1000) (h0 : a < 1000) (h2 : zclW a w) (h3 : ls.all (zlv a) = true) (h4 : st.all (zcV a) = true) (h5 : k + 1 ≤ MC ∧ n + N ≤ MS) (h : nx ls (.ref a :: st) (w ++ [.inl (1, (N, .inr (.inl (fun _ => 0))))]) (k + 1) (n + N)) : oNewJL N MC MS K nx ls (.int i :: st) w k n := by
  subst ha
  exact ⟨⟨h1, h0, h2, h3, zcS_of h4, h5.1, h5.2⟩, h⟩
theorem zn_DL {N MC MS : Nat} {i : Int32} (a : Nat) (ha : w.length = a) (h1 : ¬ i < 0 ∧ i.toNatClampNeg = N ∧ N ≤ 1000) (h0 : a < 1000) (h2 : zclW a w) (h3 : ls.all (zlv a) = true) (h4 : st.all (zcV a) = true) (h5 : k + 1 ≤ MC ∧ n + N ≤ MS) (h : nx ls (.ref a :: st) (w ++ [.inl (2, (N, .inr (.inr (.inr (.inl (fun _ => 0))))))]) (k + 1) (n + N)) : oNewDL N MC MS K nx ls (.int i :: st) w k n := by
  subst ha
  exact ⟨⟨h1, h0, h2, h3, zcS_of h4, h5.1, h5.2⟩, h⟩
theorem zn_callIL {y : MethodName} {wsy : List Cond} {na d MC MS : Nat} {av rest : List Value} {d' mc' ms' : Nat} {W' : zW} (hc : CanI l y wsy d' mc' ms' av w (fun w' => w' = W')) (hp : zpop na st [] = some (av, rest)) (hs : zShort rest = true) (hv : ∃ a as, av = Value.ref a :: as) (a : Nat) (ha : w.length = a) (h2 : zclW a w) (h3 : ls.all (zlv a) = true) (h4 : rest.all (zcV a) = true) (hr : d' + 1 ≤ d ∧ k + mc' ≤ MC ∧ n + ms' ≤ MS) (hW : W'.length ≤ 1000) (h : nx ls rest W' (k + mc') (n + ms')) : oCallIL l y wsy na d MC MS K nx ls st w k n := by
  subst ha
  unfold oCallIL
  rw [hp]
  exact ⟨⟨hs, hv, h2, h3, zcS_of h4⟩, d', mc', ms', hr, CanI.mono hc (fun w' e => by rw [e]; exact ⟨hW, h⟩)⟩
theorem zW7_c : ∃ e r, zW7 = e :: r ∧ r.length = 75 := ⟨_, _, rfl, rfl⟩
theorem zW8_c : ∃ e r, zW8 = e :: r ∧ r.length = 20 := ⟨_, _, rfl, rfl⟩
set_option maxRecDepth 100000 in
theorem L_init {X : zM} {L : Nat} {xs : Nat → Int32} (C : zB X cL_law wsL_law RL 1000 601024 7293033) (SL : Lc X L xs) (hfl : X.1.2.1.stackTraces = false) (hgo : ∀ (fo : Nat → Int64) (fd : Nat → UInt64) (k n : Nat), k ≤ 200 → n ≤ 4000 → zAt X 28 [some (.ref 1000), some (.ref 0), some (.ref 76), some (.ref 97), some (.ref 98), some (.int 0), none, none, none] [] (zLw zW7 zW8 fo fd) k n) : zAt X 0 [some (.ref 1000), none, none, none, none, none, none, none, none] [] [] 0 0 := by
  obtain ⟨e7, r7, h7, l7⟩ := zW7_c
  obtain ⟨e8, r8, h8, l8⟩ := zW8_c
  have w7 : zW7.length = 76 := by rw [h7, List.length_cons, l7]
  have w8 : zW8.length = 21 := by rw [h8, List.length_cons, l8]
  have i7 : ∀ i ∈ zrg 0 76, i < 76 := by decide
  have i8 : ∀ i ∈ zrg 76 21, i < 97 := by decide
  generalize hA7 : zW7.map (zrE (zrg 0 76)) = A7
  generalize hA8 : zW8.map (zrE (zrg 76 21)) = A8
  have a7 : A7.length = 76 := by rw [← hA7, List.length_map, w7]
  have a8 : A8.length = 21 := by rw [← hA8, List.length_map, w8]
  have c7 : ∀ m, 76 ≤ m → zclW m A7 := fun m hm => by
    rw [← hA7]
    exact zcW_r (fun i hi => Nat.lt_of_lt_of_le (i7 i hi) hm) (by omega) _
  have c8 : ∀ m, 97 ≤ m → zclW m A8 := fun m hm => by
    rw [← hA8]
    exact zcW_r (fun i hi => Nat.lt_of_lt_of_le (i8 i hi) hm) (by omega) _
  have n7 : CanI X.1.2.1 yX7_init wsX7_init 3 75 2142 [.ref 0] [.inr (7, [.null, .null, .null, .null, .null, .null, .null, .null, .int 0, .int 0])] (fun w' => w' = A7) := by
    have h := i_X7w hfl
    rw [h7] at h
    have h := h.last (A := []) rfl (zcW_of rfl)
    rw [l7, ← h7] at h
    rw [← hA7]
    exact h
  have n8 : CanI X.1.2.1 yX8_init wsX8_init 1 20 1646 [.ref 76] (A7 ++ [.inr (8, [.int 0, .int 0, .int 0, .null, .null, .null, .null, .null, .null, .int 0, .null, .int 0, .null, .null, .null, .null, .null, .null, .null, .int 0, .null, .null, .null, .null, .long 0, .null, .int 0, .int 0, .int 0, .null])]) (fun w' => w' = A7 ++ A8) := by
    have h := i_X8w hfl
    rw [h8] at h
    have h := h.last (A := A7) rfl (zcW_app (c7 _ (by rw [a7]; decide)) (zcW_of rfl))
    rw [l8, ← h8, a7] at h
    rw [← hA8]
    exact h
  refine Lb_0 C SL _ _ _ _ _ ?_
  simp only [zwp, oJump, oPush, oILoad, oALoad, oLLoad, oDLoad, oIStore, oAStore, oLStore, oDStore, oIinc, o_iadd, o_isub, o_imul, o_iand, o_ior, o_ixor, o_ishl, o_ishr, o_iushr, o_idiv, o_ladd, o_lsub, o_lmul, o_ldiv, o_lrem, o_ddiv, o_i2l, o_l2i, o_i2d, o_i2b, o_lcmp, o_dcmp, o_dup, o_dup2, o_pop, o_ic_eq, o_ic_ne, o_ic_lt, o_ic_ge, o_ic_gt, o_ic_le, o_if_eq, o_if_ne, o_if_lt, o_if_ge, o_if_gt, o_if_le, o_goto, oSwitch, zsw, oGetf, oPutI, oPutZ, oPutJ, oPutA, oIald, oLald, oDald, oBald, oZald, oIast, oLast, oDast, oBast, oZast, oAald, oAast, o_mmax, o_mmin, oCall, oCallM, oCallMV, oIret, oZret, oLret, oDret, oVret, oThrow, zMO, zThru, zpop, zShort, zg, zok1, List.set_cons_zero, List.set_cons_succ, List.getElem?_cons_zero, List.getElem?_cons_succ, List.length_cons, List.length_nil, List.length_set, Option.toList_some, Option.toList_none, List.cons_append, List.nil_append, Value.category, true_and, and_true, Nat.zero_add, Nat.add_zero, Nat.le_refl, Nat.reduceAdd, Nat.reduceLT, Nat.zero_le, Nat.reduceLeDiff, zrO, Option.map_some, Option.map_none, zv, oSLen, oSLd, oLend, zNoX]
  refine zn_newL 0 rfl (by decide) (zcW_of rfl) rfl rfl (by decide) ?_
  simp only [zwp, oJump, oPush, oILoad, oALoad, oLLoad, oDLoad, oIStore, oAStore, oLStore, oDStore, oIinc, o_iadd, o_isub, o_imul, o_iand, o_ior, o_ixor, o_ishl, o_ishr, o_iushr, o_idiv, o_ladd, o_lsub, o_lmul, o_ldiv, o_lrem, o_ddiv, o_i2l, o_l2i, o_i2d, o_i2b, o_lcmp, o_dcmp, o_dup, o_dup2, o_pop, o_ic_eq, o_ic_ne, o_ic_lt, o_ic_ge, o_ic_gt, o_ic_le, o_if_eq, o_if_ne, o_if_lt, o_if_ge, o_if_gt, o_if_le, o_goto, oSwitch, zsw, oGetf, oPutI, oPutZ, oPutJ, oPutA, oIald, oLald, oDald, oBald, oZald, oIast, oLast, oDast, oBast, oZast, oAald, oAast, o_mmax, o_mmin, oCall, oCallM, oCallMV, oIret, oZret, oLret, oDret, oVret, oThrow, zMO, zThru, zpop, zShort, zg, zok1, List.set_cons_zero, List.set_cons_succ, List.getElem?_cons_zero, List.getElem?_cons_succ, List.length_cons, List.length_nil, List.length_set, Option.toList_some, Option.toList_none, List.cons_append, List.nil_append, Value.category, true_and, and_true, Nat.zero_add, Nat.add_zero, Nat.le_refl, Nat.reduceAdd, Nat.reduceLT, Nat.zero_le, Nat.reduceLeDiff, zrO, Option.map_some, Option.map_none, zv, oSLen, oSLd, oLend, zNoX]
  refine zn_callIL n7 rfl rfl ⟨_, _, rfl⟩ 1 rfl (zcW_of rfl) rfl rfl (by decide) (by rw [a7]; decide) ?_
  simp only [zwp, oJump, oPush, oILoad, oALoad, oLLoad, oDLoad, oIStore, oAStore, oLStore, oDStore, oIinc, o_iadd, o_isub, o_imul, o_iand, o_ior, o_ixor, o_ishl, o_ishr, o_iushr, o_idiv, o_ladd, o_lsub, o_lmul, o_ldiv, o_lrem, o_ddiv, o_i2l, o_l2i, o_i2d, o_i2b, o_lcmp, o_dcmp, o_dup, o_dup2, o_pop, o_ic_eq, o_ic_ne, o_ic_lt, o_ic_ge, o_ic_gt, o_ic_le, o_if_eq, o_if_ne, o_if_lt, o_if_ge, o_if_gt, o_if_le, o_goto, oSwitch, zsw, oGetf, oPutI, oPutZ, oPutJ, oPutA, oIald, oLald, oDald, oBald, oZald, oIast, oLast, oDast, oBast, oZast, oAald, oAast, o_mmax, o_mmin, oCall, oCallM, oCallMV, oIret, oZret, oLret, oDret, oVret, oThrow, zMO, zThru, zpop, zShort, zg, zok1, List.set_cons_zero, List.set_cons_succ, List.getElem?_cons_zero, List.getElem?_cons_succ, List.length_cons, List.length_nil, List.length_set, Option.toList_some, Option.toList_none, List.cons_append, List.nil_append, Value.category, true_and, and_true, Nat.zero_add, Nat.add_zero, Nat.le_refl, Nat.reduceAdd, Nat.reduceLT, Nat.zero_le, Nat.reduceLeDiff, zrO, Option.map_some, Option.map_none, zv, oSLen, oSLd, oLend, zNoX]
  refine zn_newL 76 a7 (by decide) (c7 _ (Nat.le_refl _)) rfl rfl (by decide) ?_
  simp only [zwp, oJump, oPush, oILoad, oALoad, oLLoad, oDLoad, oIStore, oAStore, oLStore, oDStore, oIinc, o_iadd, o_isub, o_imul, o_iand, o_ior, o_ixor, o_ishl, o_ishr, o_iushr, o_idiv, o_ladd, o_lsub, o_lmul, o_ldiv, o_lrem, o_ddiv, o_i2l, o_l2i, o_i2d, o_i2b, o_lcmp, o_dcmp, o_dup, o_dup2, o_pop, o_ic_eq, o_ic_ne, o_ic_lt, o_ic_ge, o_ic_gt, o_ic_le, o_if_eq, o_if_ne, o_if_lt, o_if_ge, o_if_gt, o_if_le, o_goto, oSwitch, zsw, oGetf, oPutI, oPutZ, oPutJ, oPutA, oIald, oLald, oDald, oBald, oZald, oIast, oLast, oDast, oBast, oZast, oAald, oAast, o_mmax, o_mmin, oCall, oCallM, oCallMV, oIret, oZret, oLret, oDret, oVret, oThrow, zMO, zThru, zpop, zShort, zg, zok1, List.set_cons_zero, List.set_cons_succ, List.getElem?_cons_zero, List.getElem?_cons_succ, List.length_cons, List.length_nil, List.length_set, Option.toList_some, Option.toList_none, List.cons_append, List.nil_append, Value.category, true_and, and_true, Nat.zero_add, Nat.add_zero, Nat.le_refl, Nat.reduceAdd, Nat.reduceLT, Nat.zero_le, Nat.reduceLeDiff, zrO, Option.map_some, Option.map_none, zv, oSLen, oSLd, oLend, zNoX]
  refine zn_callIL n8 rfl rfl ⟨_, _, rfl⟩ 77 (by rw [List.length_append, a7]; rfl) (zcW_app (c7 _ (by decide)) (zcW_of rfl)) rfl rfl (by decide) (by rw [List.length_append, a7, a8]; decide) ?_
  simp only [zwp, oJump, oPush, oILoad, oALoad, oLLoad, oDLoad, oIStore, oAStore, oLStore, oDStore, oIinc, o_iadd, o_isub, o_imul, o_iand, o_ior, o_ixor, o_ishl, o_ishr, o_iushr, o_idiv, o_ladd, o_lsub, o_lmul, o_ldiv, o_lrem, o_ddiv, o_i2l, o_l2i, o_i2d, o_i2b, o_lcmp, o_dcmp, o_dup, o_dup2, o_pop, o_ic_eq, o_ic_ne, o_ic_lt, o_ic_ge, o_ic_gt, o_ic_le, o_if_eq, o_if_ne, o_if_lt, o_if_ge, o_if_gt, o_if_le, o_goto, oSwitch, zsw, oGetf, oPutI, oPutZ, oPutJ, oPutA, oIald, oLald, oDald, oBald, oZald, oIast, oLast, oDast, oBast, oZast, oAald, oAast, o_mmax, o_mmin, oCall, oCallM, oCallMV, oIret, oZret, oLret, oDret, oVret, oThrow, zMO, zThru, zpop, zShort, zg, zok1, List.set_cons_zero, List.set_cons_succ, List.getElem?_cons_zero, List.getElem?_cons_succ, List.length_cons, List.length_nil, List.length_set, Option.toList_some, Option.toList_none, List.cons_append, List.nil_append, Value.category, true_and, and_true, Nat.zero_add, Nat.add_zero, Nat.le_refl, Nat.reduceAdd, Nat.reduceLT, Nat.zero_le, Nat.reduceLeDiff, zrO, Option.map_some, Option.map_none, zv, oSLen, oSLd, oLend, zNoX]
  refine zn_JL 97 (by rw [List.length_append, a7, a8]) (by decide) (by decide) (zcW_app (c7 _ (by decide)) (c8 _ (by decide))) rfl rfl (by decide) ?_
  simp only [zwp, oJump, oPush, oILoad, oALoad, oLLoad, oDLoad, oIStore, oAStore, oLStore, oDStore, oIinc, o_iadd, o_isub, o_imul, o_iand, o_ior, o_ixor, o_ishl, o_ishr, o_iushr, o_idiv, o_ladd, o_lsub, o_lmul, o_ldiv, o_lrem, o_ddiv, o_i2l, o_l2i, o_i2d, o_i2b, o_lcmp, o_dcmp, o_dup, o_dup2, o_pop, o_ic_eq, o_ic_ne, o_ic_lt, o_ic_ge, o_ic_gt, o_ic_le, o_if_eq, o_if_ne, o_if_lt, o_if_ge, o_if_gt, o_if_le, o_goto, oSwitch, zsw, oGetf, oPutI, oPutZ, oPutJ, oPutA, oIald, oLald, oDald, oBald, oZald, oIast, oLast, oDast, oBast, oZast, oAald, oAast, o_mmax, o_mmin, oCall, oCallM, oCallMV, oIret, oZret, oLret, oDret, oVret, oThrow, zMO, zThru, zpop, zShort, zg, zok1, List.set_cons_zero, List.set_cons_succ, List.getElem?_cons_zero, List.getElem?_cons_succ, List.length_cons, List.length_nil, List.length_set, Option.toList_some, Option.toList_none, List.cons_append, List.nil_append, Value.category, true_and, and_true, Nat.zero_add, Nat.add_zero, Nat.le_refl, Nat.reduceAdd, Nat.reduceLT, Nat.zero_le, Nat.reduceLeDiff, zrO, Option.map_some, Option.map_none, zv, oSLen, oSLd, oLend, zNoX]
  refine zn_DL 98 (by rw [List.length_append, List.length_append, a7, a8]; rfl) (by decide) (by decide) (zcW_app (zcW_app (c7 _ (by decide)) (c8 _ (by decide))) (zcW_of rfl)) rfl rfl (by decide) ?_
  simp only [zwp, oJump, oPush, oILoad, oALoad, oLLoad, oDLoad, oIStore, oAStore, oLStore, oDStore, oIinc, o_iadd, o_isub, o_imul, o_iand, o_ior, o_ixor, o_ishl, o_ishr, o_iushr, o_idiv, o_ladd, o_lsub, o_lmul, o_ldiv, o_lrem, o_ddiv, o_i2l, o_l2i, o_i2d, o_i2b, o_lcmp, o_dcmp, o_dup, o_dup2, o_pop, o_ic_eq, o_ic_ne, o_ic_lt, o_ic_ge, o_ic_gt, o_ic_le, o_if_eq, o_if_ne, o_if_lt, o_if_ge, o_if_gt, o_if_le, o_goto, oSwitch, zsw, oGetf, oPutI, oPutZ, oPutJ, oPutA, oIald, oLald, oDald, oBald, oZald, oIast, oLast, oDast, oBast, oZast, oAald, oAast, o_mmax, o_mmin, oCall, oCallM, oCallMV, oIret, oZret, oLret, oDret, oVret, oThrow, zMO, zThru, zpop, zShort, zg, zok1, List.set_cons_zero, List.set_cons_succ, List.getElem?_cons_zero, List.getElem?_cons_succ, List.length_cons, List.length_nil, List.length_set, Option.toList_some, Option.toList_none, List.cons_append, List.nil_append, Value.category, true_and, and_true, Nat.zero_add, Nat.add_zero, Nat.le_refl, Nat.reduceAdd, Nat.reduceLT, Nat.zero_le, Nat.reduceLeDiff, zrO, Option.map_some, Option.map_none, zv, oSLen, oSLd, oLend, zNoX]
  have h := hgo (fun _ => 0) (fun _ => 0) 99 3830 (by decide) (by decide)
  unfold zLw at h
  rw [hA7, hA8] at h
  simpa only [List.append_assoc, List.cons_append, List.nil_append] using h
theorem nI_s (a b : Nat) : nI a + nI b = nI (a + b) := by
  rw [iI_n, iI_n, iI_n, iI_add]
  congr 1
theorem vinN {m L : Nat} (h : m < L) (hL : L ≤ 2560) : vp_in (nI m) L := by
  unfold vp_in
  rw [cl (by omega)]
  rintro (h9 | h9)
  · exact absurd (nI_pos' (n := m) (by omega)) (Int32.not_le.mpr h9)
  · omega
set_option maxRecDepth 100000 in
theorem L_loop {X : zM} {L : Nat} {xs : Nat → Int32} (C : zB X cL_law wsL_law RL 1000 601024 7293033) (SL : Lc X L xs) (hfl : X.1.2.1.stackTraces = false) (hL : L ≤ 2560) : ∀ (q i k n : Nat) (r : Int32) (wx wm : zW) (fo : Nat → Int64) (fd : Nat → UInt64), L < i + 5 * q + 5 → i ≤ 2564 → Jr r wx wm → k ≤ 200 + 4 * i → n ≤ 4000 + 24 * i → zAt X 28 [some (.ref 1000), some (.ref 0), some (.ref 76), some (.ref 97), some (.ref 98), some (.int (nI i)), none, none, none] [] (zLw wx wm fo fd) k n := by
  intro q
  induction q with
  | zero =>
    intro i k n r wx wm fo fd hq hi hJ hk hn
    obtain ⟨hx, hm, -⟩ := hJ.len
    have w0 : (zLw wx wm fo fd).length ≤ 1000 := zLw_le hx hm
    refine Lb_28 C SL _ _ _ _ _ ?_
    simp only [zwp, oJump, oPush, oILoad, oALoad, oLLoad, oDLoad, oIStore, oAStore, oLStore, oDStore, oIinc, o_iadd, o_isub, o_imul, o_iand, o_ior, o_ixor, o_ishl, o_ishr, o_iushr, o_idiv, o_ladd, o_lsub, o_lmul, o_ldiv, o_lrem, o_ddiv, o_i2l, o_l2i, o_i2d, o_i2b, o_lcmp, o_dcmp, o_dup, o_dup2, o_pop, o_ic_eq, o_ic_ne, o_ic_lt, o_ic_ge, o_ic_gt, o_ic_le, o_if_eq, o_if_ne, o_if_lt, o_if_ge, o_if_gt, o_if_le, o_goto, oSwitch, zsw, oGetf, oPutI, oPutZ, oPutJ, oPutA, oIald, oLald, oDald, oBald, oZald, oIast, oLast, oDast, oBast, oZast, oAald, oAast, o_mmax, o_mmin, oCall, oCallM, oCallMV, oIret, oZret, oLret, oDret, oVret, oThrow, zMO, zThru, zpop, zShort, zg, zok1, List.set_cons_zero, List.set_cons_succ, List.getElem?_cons_zero, List.getElem?_cons_succ, List.length_cons, List.length_nil, List.length_set, Option.toList_some, Option.toList_none, List.cons_append, List.nil_append, Value.category, true_and, and_true, Nat.zero_add, Nat.add_zero, Nat.le_refl, Nat.reduceAdd, Nat.reduceLT, Nat.zero_le, Nat.reduceLeDiff, zrO, Option.map_some, Option.map_none, zv, oSLen, oSLd, oLend, zNoX, w0]
    refine ⟨fun _ => Lb_1583 C SL _ _ _ _ _ ?_, fun h => absurd ?_ h⟩
    · simp only [zwp, oJump, oPush, oILoad, oALoad, oLLoad, oDLoad, oIStore, oAStore, oLStore, oDStore, oIinc, o_iadd, o_isub, o_imul, o_iand, o_ior, o_ixor, o_ishl, o_ishr, o_iushr, o_idiv, o_ladd, o_lsub, o_lmul, o_ldiv, o_lrem, o_ddiv, o_i2l, o_l2i, o_i2d, o_i2b, o_lcmp, o_dcmp, o_dup, o_dup2, o_pop, o_ic_eq, o_ic_ne, o_ic_lt, o_ic_ge, o_ic_gt, o_ic_le, o_if_eq, o_if_ne, o_if_lt, o_if_ge, o_if_gt, o_if_le, o_goto, oSwitch, zsw, oGetf, oPutI, oPutZ, oPutJ, oPutA, oIald, oLald, oDald, oBald, oZald, oIast, oLast, oDast, oBast, oZast, oAald, oAast, o_mmax, o_mmin, oCall, oCallM, oCallMV, oIret, oZret, oLret, oDret, oVret, oThrow, zMO, zThru, zpop, zShort, zg, zok1, List.set_cons_zero, List.set_cons_succ, List.getElem?_cons_zero, List.getElem?_cons_succ, List.length_cons, List.length_nil, List.length_set, Option.toList_some, Option.toList_none, List.cons_append, List.nil_append, Value.category, true_and, and_true, Nat.zero_add, Nat.add_zero, Nat.le_refl, Nat.reduceAdd, Nat.reduceLT, Nat.zero_le, Nat.reduceLeDiff, zrO, Option.map_some, Option.map_none, zv, oSLen, oSLd, oLend, zNoX]
      exact ⟨by omega, by omega⟩
    · rw [show (5 : Int32) = nI 5 from rfl, show Int32.ofNat L = nI L from rfl, iI_n, iI_n, iI_n, iI_sub]
      refine (iI_lt ⟨by omega, by omega⟩ ⟨by omega, by omega⟩).mpr (by omega)
  | succ q ih =>
    intro i k n r wx wm fo fd hq hi hJ hk hn
    obtain ⟨hx, hm, -⟩ := hJ.len
    have w0 : (zLw wx wm fo fd).length ≤ 1000 := zLw_le hx hm
    refine Lb_28 C SL _ _ _ _ _ ?_
    simp only [zwp, oJump, oPush, oILoad, oALoad, oLLoad, oDLoad, oIStore, oAStore, oLStore, oDStore, oIinc, o_iadd, o_isub, o_imul, o_iand, o_ior, o_ixor, o_ishl, o_ishr, o_iushr, o_idiv, o_ladd, o_lsub, o_lmul, o_ldiv, o_lrem, o_ddiv, o_i2l, o_l2i, o_i2d, o_i2b, o_lcmp, o_dcmp, o_dup, o_dup2, o_pop, o_ic_eq, o_ic_ne, o_ic_lt, o_ic_ge, o_ic_gt, o_ic_le, o_if_eq, o_if_ne, o_if_lt, o_if_ge, o_if_gt, o_if_le, o_goto, oSwitch, zsw, oGetf, oPutI, oPutZ, oPutJ, oPutA, oIald, oLald, oDald, oBald, oZald, oIast, oLast, oDast, oBast, oZast, oAald, oAast, o_mmax, o_mmin, oCall, oCallM, oCallMV, oIret, oZret, oLret, oDret, oVret, oThrow, zMO, zThru, zpop, zShort, zg, zok1, List.set_cons_zero, List.set_cons_succ, List.getElem?_cons_zero, List.getElem?_cons_succ, List.length_cons, List.length_nil, List.length_set, Option.toList_some, Option.toList_none, List.cons_append, List.nil_append, Value.category, true_and, and_true, Nat.zero_add, Nat.add_zero, Nat.le_refl, Nat.reduceAdd, Nat.reduceLT, Nat.zero_le, Nat.reduceLeDiff, zrO, Option.map_some, Option.map_none, zv, oSLen, oSLd, oLend, zNoX, w0]
    refine ⟨fun _ => Lb_1583 C SL _ _ _ _ _ ?_, fun h => Lb_37 C SL _ _ _ _ _ ?_⟩
    · simp only [zwp, oJump, oPush, oILoad, oALoad, oLLoad, oDLoad, oIStore, oAStore, oLStore, oDStore, oIinc, o_iadd, o_isub, o_imul, o_iand, o_ior, o_ixor, o_ishl, o_ishr, o_iushr, o_idiv, o_ladd, o_lsub, o_lmul, o_ldiv, o_lrem, o_ddiv, o_i2l, o_l2i, o_i2d, o_i2b, o_lcmp, o_dcmp, o_dup, o_dup2, o_pop, o_ic_eq, o_ic_ne, o_ic_lt, o_ic_ge, o_ic_gt, o_ic_le, o_if_eq, o_if_ne, o_if_lt, o_if_ge, o_if_gt, o_if_le, o_goto, oSwitch, zsw, oGetf, oPutI, oPutZ, oPutJ, oPutA, oIald, oLald, oDald, oBald, oZald, oIast, oLast, oDast, oBast, oZast, oAald, oAast, o_mmax, o_mmin, oCall, oCallM, oCallMV, oIret, oZret, oLret, oDret, oVret, oThrow, zMO, zThru, zpop, zShort, zg, zok1, List.set_cons_zero, List.set_cons_succ, List.getElem?_cons_zero, List.getElem?_cons_succ, List.length_cons, List.length_nil, List.length_set, Option.toList_some, Option.toList_none, List.cons_append, List.nil_append, Value.category, true_and, and_true, Nat.zero_add, Nat.add_zero, Nat.le_refl, Nat.reduceAdd, Nat.reduceLT, Nat.zero_le, Nat.reduceLeDiff, zrO, Option.map_some, Option.map_none, zv, oSLen, oSLd, oLend, zNoX]
      exact ⟨by omega, by omega⟩
    have hi5 : i + 5 ≤ L := by
      refine Nat.not_lt.mp (fun h9 => h ?_)
      rw [show (5 : Int32) = nI 5 from rfl, show Int32.ofNat L = nI L from rfl, iI_n, iI_n, iI_n, iI_sub]
      refine (iI_lt ⟨by omega, by omega⟩ ⟨by omega, by omega⟩).mpr (by omega)
    have hv0 : vp_in (nI i) L := vinN (by omega) hL
    have hv1 : vp_in (nI i + 1) L := by rw [show (1 : Int32) = nI 1 from rfl, nI_s]; exact vinN (by omega) hL
    have hv2 : vp_in (nI i + 2) L := by rw [show (2 : Int32) = nI 2 from rfl, nI_s]; exact vinN (by omega) hL
    have hv3 : vp_in (nI i + 3) L := by rw [show (3 : Int32) = nI 3 from rfl, nI_s]; exact vinN (by omega) hL
    have hv4 : vp_in (nI i + 4) L := by rw [show (4 : Int32) = nI 4 from rfl, nI_s]; exact vinN (by omega) hL
    have hk4 : k + 4 ≤ 601024 := by omega
    have hn4 : n + 24 ≤ 7293033 := by omega
    have hnext : LNx X (nI i) k n := fun r wx wm fo fd k9 n9 hJ h1 h2 => Lb_1577 C SL _ _ _ _ _ (by
      simp only [zwp, oJump, oPush, oILoad, oALoad, oLLoad, oDLoad, oIStore, oAStore, oLStore, oDStore, oIinc, o_iadd, o_isub, o_imul, o_iand, o_ior, o_ixor, o_ishl, o_ishr, o_iushr, o_idiv, o_ladd, o_lsub, o_lmul, o_ldiv, o_lrem, o_ddiv, o_i2l, o_l2i, o_i2d, o_i2b, o_lcmp, o_dcmp, o_dup, o_dup2, o_pop, o_ic_eq, o_ic_ne, o_ic_lt, o_ic_ge, o_ic_gt, o_ic_le, o_if_eq, o_if_ne, o_if_lt, o_if_ge, o_if_gt, o_if_le, o_goto, oSwitch, zsw, oGetf, oPutI, oPutZ, oPutJ, oPutA, oIald, oLald, oDald, oBald, oZald, oIast, oLast, oDast, oBast, oZast, oAald, oAast, o_mmax, o_mmin, oCall, oCallM, oCallMV, oIret, oZret, oLret, oDret, oVret, oThrow, zMO, zThru, zpop, zShort, zg, zok1, List.set_cons_zero, List.set_cons_succ, List.getElem?_cons_zero, List.getElem?_cons_succ, List.length_cons, List.length_nil, List.length_set, Option.toList_some, Option.toList_none, List.cons_append, List.nil_append, Value.category, true_and, and_true, Nat.zero_add, Nat.add_zero, Nat.le_refl, Nat.reduceAdd, Nat.reduceLT, Nat.zero_le, Nat.reduceLeDiff, zrO, Option.map_some, Option.map_none, zv, oSLen, oSLd, oLend, zNoX]
      rw [show (5 : Int32) = nI 5 from rfl, nI_s]
      exact ih (i + 5) k9 n9 r wx wm fo fd (by omega) (by omega) hJ (by omega) (by omega))
    simp only [zwp, oJump, oPush, oILoad, oALoad, oLLoad, oDLoad, oIStore, oAStore, oLStore, oDStore, oIinc, o_iadd, o_isub, o_imul, o_iand, o_ior, o_ixor, o_ishl, o_ishr, o_iushr, o_idiv, o_ladd, o_lsub, o_lmul, o_ldiv, o_lrem, o_ddiv, o_i2l, o_l2i, o_i2d, o_i2b, o_lcmp, o_dcmp, o_dup, o_dup2, o_pop, o_ic_eq, o_ic_ne, o_ic_lt, o_ic_ge, o_ic_gt, o_ic_le, o_if_eq, o_if_ne, o_if_lt, o_if_ge, o_if_gt, o_if_le, o_goto, oSwitch, zsw, oGetf, oPutI, oPutZ, oPutJ, oPutA, oIald, oLald, oDald, oBald, oZald, oIast, oLast, oDast, oBast, oZast, oAald, oAast, o_mmax, o_mmin, oCall, oCallM, oCallMV, oIret, oZret, oLret, oDret, oVret, oThrow, zMO, zThru, zpop, zShort, zg, zok1, List.set_cons_zero, List.set_cons_succ, List.getElem?_cons_zero, List.getElem?_cons_succ, List.length_cons, List.length_nil, List.length_set, Option.toList_some, Option.toList_none, List.cons_append, List.nil_append, Value.category, true_and, and_true, Nat.zero_add, Nat.add_zero, Nat.le_refl, Nat.reduceAdd, Nat.reduceLT, Nat.zero_le, Nat.reduceLeDiff, zrO, Option.map_some, Option.map_none, zv, oSLen, oSLd, oLend, zNoX, w0, hv0]
    exact ⟨⟨fun _ => Lk_164 C SL hfl hJ hk4 hn4 hv1 hv2 hv3 hv4 hnext, fun _ => Lk_220 C SL hfl hJ hk4 hn4 hv1 hv2 hv3 hv4 hnext, fun _ => Lk_312 C SL hfl hJ hk4 hn4 hv1 hv2 hv3 hv4 hnext, fun _ => Lk_392 C SL hfl hJ hk4 hn4 hv1 hv2 hv3 hv4 hnext, fun _ => Lk_488 C SL hfl hJ hk4 hn4 hv1 hv2 hv3 hv4 hnext, fun _ => Lk_501 C SL hfl hJ hk4 hn4 hv1 hv2 hv3 hv4 hnext, fun _ => Lk_569 C SL hfl hJ hk4 hn4 hv1 hv2 hv3 hv4 hnext, fun _ => Lk_625 C SL hfl hJ hk4 hn4 hv1 hv2 hv3 hv4 hnext, fun _ => Lk_681 C SL hfl hJ hk4 hn4 hv1 hv2 hv3 hv4 hnext, fun _ => Lk_737 C SL hfl hJ hk4 hn4 hv1 hv2 hv3 hv4 hnext, fun _ => Lk_812 C SL hfl hJ hk4 hn4 hv1 hv2 hv3 hv4 hnext, fun _ => Lk_880 C SL hfl hJ hk4 hn4 hv1 hv2 hv3 hv4 hnext, fun _ => Lk_948 C SL hfl hJ hk4 hn4 hv1 hv2 hv3 hv4 hnext, fun _ => Lk_1004 C SL hfl hJ hk4 hn4 hv1 hv2 hv3 hv4 hnext, fun _ => Lk_1017 C SL hfl hJ hk4 hn4 hv1 hv2 hv3 hv4 hnext, fun _ => Lk_1085 C SL hfl hJ hk4 hn4 hv1 hv2 hv3 hv4 hnext, fun _ => Lk_1153 C SL hfl hJ hk4 hn4 hv1 hv2 hv3 hv4 hnext, fun _ => Lk_1228 C SL hfl hJ hk4 hn4 hv1 hv2 hv3 hv4 hnext, fun _ => Lk_1284 C SL hfl hJ hk4 hn4 hv1 hv2 hv3 hv4 hnext, fun _ => Lk_1297 C SL hfl hJ hk4 hn4 hv1 hv2 hv3 hv4 hnext, fun _ => Lk_1372 C SL hfl hJ hk4 hn4 hv1 hv2 hv3 hv4 hnext, fun _ => Lk_1437 C SL hfl hJ hk4 hn4 hv1 hv2 hv3 hv4 hnext, fun _ => Lk_1493 C SL hfl hJ hk4 hn4 hv1 hv2 hv3 hv4 hnext, fun _ => Lk_1506 C SL hfl hJ hk4 hn4 hv1 hv2 hv3 hv4 hnext, fun _ => Lk_1519 C SL hfl hJ hk4 hn4 hv1 hv2 hv3 hv4 hnext, fun _ => Lk_1563 C SL hfl hJ hk4 hn4 hv1 hv2 hv3 hv4 hnext⟩, fun _ => hnext r wx wm fo fd k n hJ (by omega) (by omega)⟩
theorem law_stat {args : Array Value} {s : State} (hts : ∀ w ∈ lw_tbl, w.before args s = true) (hgv : (Jvm.Cond.and given_1 narrow_1).before args s = true) : zStat (fun q : Nat => s.heap.size ≤ q) s := by
  have hf := flat_of_before _ hgv
  have hT : ∀ w ∈ tables_1, w.before args s = true := fun w h => hts w (List.mem_append_right _ h)
  have hA : ∀ a : Nat, a < s.heap.size → ¬ (s.heap.size ≤ a) := fun a h => Nat.not_le.mpr h
  refine ⟨vx_Zqof (hT _ (by decide +kernel)) (hT _ (by decide +kernel)) (hf _ (by decide +kernel)) hA, vx_Zqof (hT _ (by decide +kernel)) (hT _ (by decide +kernel)) (hf _ (by decide +kernel)) hA, ?_, ?_, ?_, va_AO.of (hT _ (by decide +kernel)), fun a i y h hm => va_Nw.of rfl (hT _ hm), ?_⟩
  · intro k tx hk
    obtain ⟨cC, kC, hfc, -⟩ := Cond.instantiable_spec (hT (.instantiable RX7 10) (by decide +kernel))
    have h1 : (Cond.stringRef RX7 k tx).before #[] s = true := hT _ hk
    obtain ⟨_, _, _, a, -, -, -, -, -, he⟩ := Cond.stringRef_spec hfc h1
    exact ⟨a, h1, he⟩
  · intro E hE
    exact va_Nw.of rfl (hT _ ((by decide +kernel : ∀ E ∈ zX3, Cond.castable E E ∈ tables_1) E hE))
  · intro E hE F hF hne
    exact va_Nc.of (hf _ ((by decide +kernel : ∀ E ∈ zX3, ∀ F ∈ zX3, E ≠ F → Cond.not (.castable E F) ∈ flatC (Jvm.Cond.and given_1 narrow_1)) E hE F hF hne))
  · intro x hx
    exact va_Nw.of rfl (hT _ ((by decide +kernel : ∀ x ∈ zY3, Cond.declares x ∈ tables_1) x hx))
end ST
-- ===== whole_start =====
set_option maxRecDepth 100000 in
theorem whole_start {p : Program} {e : Env} {s : State} {m : MethodId} {below : List Frame} {meth : Method} {c : Code} (l : Launch) (hflags : l.flags = flags0) {b L : Nat} {xs : Nat → Int32} (hL : L ≤ 2560) (C0 : lw_At p s m meth c b L xs) : W p l e room_1 s m #[Value.ref b] below meth c s.heap [] 0 0 (lw_Z below #[Value.ref b] s) (entryFrame m ([Value.ref b] : List Value).toArray 9) := by
  obtain ⟨hx, hb, hr, hml, hown, hts, hX, hbl, hlocks, hgv⟩ := id C0
  have hfl : l.stackTraces = false := by
    show (!l.flags.contains noTraceFlag) = false
    rw [hflags]
    decide +kernel
  have hT : ∀ w ∈ tables_1, w.before #[Value.ref b] s = true := fun w h => hts w (List.mem_append_right _ h)
  obtain ⟨c0, i0, k0⟩ := u_known (C := RX0) (T := TX0) (N := 10) (n := 10) hts inX0 (hts (.instantiable RX0 10) (by decide +kernel))
  obtain ⟨c1, i1, k1⟩ := u_known (C := RX1) (T := TX1) (N := 3) (n := 3) hts inX1 (hts (.instantiable RX1 3) (by decide +kernel))
  obtain ⟨c2, i2, k2⟩ := u_known (C := RX2) (T := TX2) (N := 2) (n := 2) hts inX2 (hts (.instantiable RX2 2) (by decide +kernel))
  obtain ⟨c3, i3, k3⟩ := u_known (C := RX3) (T := TX3) (N := 11) (n := 11) hts inX3 (hts (.instantiable RX3 11) (by decide +kernel))
  obtain ⟨c4, i4, k4⟩ := u_known (C := RX4) (T := TX4) (N := 3) (n := 3) hts inX4 (hts (.instantiable RX4 3) (by decide +kernel))
  obtain ⟨c5, i5, k5⟩ := u_known (C := RX5) (T := TX5) (N := 8) (n := 8) hts inX5 (hts (.instantiable RX5 8) (by decide +kernel))
  obtain ⟨c6, i6, k6⟩ := u_known (C := RX6) (T := TX6) (N := 9) (n := 9) hts inX6 (hts (.instantiable RX6 9) (by decide +kernel))
  obtain ⟨c7, i7, k7⟩ := u_known (C := RX7) (T := TX7) (N := 10) (n := 10) hts inX7 (hts (.instantiable RX7 10) (by decide +kernel))
  obtain ⟨c8, i8, k8⟩ := u_known (C := RX8) (T := TX8) (N := 30) (n := 30) hts inX8 (hts (.instantiable RX8 30) (by decide +kernel))
  obtain ⟨dC, dI, hKc⟩ : ∃ (dC : Nat → ClassId) (dI : Nat → Nat → Nat), ∀ (k : Nat) (q : vw_C), vwCl[k]? = some q → u_Kn s q.1 q.2.1 q.2.2 (dC k) (dI k) := by
    refine ⟨fun k => match k with | 0 => c0 | 1 => c1 | 2 => c2 | 3 => c3 | 4 => c4 | 5 => c5 | 6 => c6 | 7 => c7 | _ => c8, fun k => match k with | 0 => i0 | 1 => i1 | 2 => i2 | 3 => i3 | 4 => i4 | 5 => i5 | 6 => i6 | 7 => i7 | _ => i8, ?_⟩
    intro k q hq
    match k, hq with
    | 0, hq => cases hq; exact k0
    | 1, hq => cases hq; exact k1
    | 2, hq => cases hq; exact k2
    | 3, hq => cases hq; exact k3
    | 4, hq => cases hq; exact k4
    | 5, hq => cases hq; exact k5
    | 6, hq => cases hq; exact k6
    | 7, hq => cases hq; exact k7
    | 8, hq => cases hq; exact k8
    | k + 9, hq => cases hq
  obtain ⟨cI, kI, pI, i1, i2, i3⟩ := Cond.arrayClass_spec (hT (.arrayClass .int) (by decide +kernel))
  obtain ⟨cJ, kJ, pJ, j1, j2, j3⟩ := Cond.arrayClass_spec (hT (.arrayClass .long) (by decide +kernel))
  obtain ⟨cD, kD, pD, d1, d2, d3⟩ := Cond.arrayClass_spec (hT (.arrayClass .double) (by decide +kernel))
  obtain ⟨cB, kB, pB, b1, b2, b3⟩ := Cond.arrayClass_spec (hT (.arrayClass .byte) (by decide +kernel))
  obtain ⟨cZ, kZ, pZ, z1, z2, z3⟩ := Cond.arrayClass_spec (hT (.arrayClass .boolean) (by decide +kernel))
  obtain ⟨pQ, cQ, kQ, q1, -, q2, q3, q4⟩ := Cond.arrayOver_spec (hT (.arrayOver (.object RX5)) (by decide +kernel))
  let dA : Nat → ClassId := fun k => match k with | 0 => cI | 1 => cJ | 2 => cD | 3 => cB | 4 => cZ | _ => cQ
  have hK : va_K (dC, dI) vwCl (zTys dA) s := by
    refine ⟨hKc, fun k q hq => ?_⟩
    match k, hq with
    | 0, hq => cases hq; exact ⟨fun n z => ⟨fun k h => (by cases h), kI, i2, pI, i3⟩, i1⟩
    | 1, hq => cases hq; exact ⟨fun n z => ⟨fun k h => (by cases h), kJ, j2, pJ, j3⟩, j1⟩
    | 2, hq => cases hq; exact ⟨fun n z => ⟨fun k h => (by cases h), kD, d2, pD, d3⟩, d1⟩
    | 3, hq => cases hq; exact ⟨fun n z => ⟨fun k h => (by cases h), kB, b2, pB, b3⟩, b1⟩
    | 4, hq => cases hq; exact ⟨fun n z => ⟨fun k h => (by cases h), kZ, z2, pZ, z3⟩, z1⟩
    | 5, hq => cases hq; exact ⟨fun n z => ⟨fun k h => (by cases h), kQ, q2, pQ, q3⟩, kQ, pQ, q2, q3, q1, q4⟩
    | k + 6, hq => cases hq
  have hl := lv_entry ([.ref b]) (n := 9) (Nat.le_of_ble_eq_true rfl)
  rw [lg_entry_eq]
  generalize (lg_sl ([.ref b]) ++ List.replicate (9 - (lg_sl ([.ref b])).length) Slot.unset).toArray = ls at hl ⊢
  have C : zB ((p, l, e, room_1), (s, m, #[Value.ref b], below, meth, c), ((dC, dI), dA, (fun q : Nat => s.heap.size ≤ q), 9, lw_Z below #[Value.ref b] s), (fun _ => b, 0)) cL_law wsL_law RL 1000 601024 7293033 := ⟨hx, hb, hml, fun w hw => hts w (wsL_law_in w hw), hown, hK, hlocks, fun _ h => h, law_stat hts hgv, ⟨by decide, by decide, by decide, by decide⟩, hfl⟩
  have SL : Lc ((p, l, e, room_1), (s, m, #[Value.ref b], below, meth, c), ((dC, dI), dA, (fun q : Nat => s.heap.size ≤ q), 9, lw_Z below #[Value.ref b] s), (fun _ => b, 0)) L xs := ⟨b, hX, hbl, Nat.not_le.mpr hbl, fun _ => rfl, fun _ h => h, rfl, rfl, rfl, hr⟩
  have go := L_init C SL hfl (fun fo fd k n hk hn => L_loop C SL hfl hL 512 0 k n 0 zW7 zW8 fo fd (by omega) (by omega) Jr_start (by omega) (by omega))
  exact go (fun _ => b) s.heap [] ls (fun _ _ => rfl) (Nat.le_refl _) (fun k q h => (nomatch h)) ⟨fun i j p q h => (nomatch h), fun k q h => (nomatch h)⟩ va_S.rf ⟨rfl, hl⟩
