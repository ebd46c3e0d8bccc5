/-! THE LAW'S WORLD: the class's cells, the reference's cells, the two rows of one place -/
section LW
theorem z_set_app {α : Type} (x y : α) (t : List α) : ∀ a : List α, (a ++ x :: t).set a.length y = a ++ y :: t
  | [] => rfl
  | z :: a => by
    show z :: (a ++ x :: t).set a.length y = z :: (a ++ y :: t)
    rw [z_set_app x y t a]
theorem z_zg_app {α : Type} (x : α) (t : List α) : ∀ a : List α, zg (a ++ x :: t) a.length = some x
  | [] => rfl
  | z :: a => by
    show zg (a ++ x :: t) a.length = some x
    exact z_zg_app x t a
theorem zput_nil (w r : zW) (f : zE → zE) : zput w [] r f = w := by cases r <;> rfl
theorem zput_seg (f : zE → zE) (c : zW) : ∀ (b b' a : zW), b'.length = b.length → zput (a ++ (b ++ c)) (zrg a.length b.length) b' f = a ++ (b'.map f ++ c)
  | [], b', a, h => by
    cases b' with
    | nil => exact zput_nil _ _ _
    | cons e r => exact absurd h (Nat.succ_ne_zero _)
  | e0 :: b, b', a, h => by
    cases b' with
    | nil => exact absurd h.symm (Nat.succ_ne_zero _)
    | cons e r =>
      have ih := zput_seg f c b r (a ++ [f e]) (Nat.succ.inj h)
      have e1 : (a ++ (e0 :: (b ++ c))).set a.length (f e) = (a ++ [f e]) ++ (b ++ c) := by
        rw [z_set_app, List.append_assoc]; rfl
      show zput ((a ++ (e0 :: (b ++ c))).set a.length (f e)) (zrg (a.length + 1) b.length) r f = a ++ (f e :: (r.map f ++ c))
      rw [e1]
      have e2 : (a ++ [f e]).length = a.length + 1 := by rw [List.length_append]; rfl
      rw [e2] at ih
      rw [ih, List.append_assoc]
      rfl
def zLw (wx wm : zW) (fo : Nat → Int64) (fd : Nat → UInt64) : zW := wx.map (zrE (zrg 0 76)) ++ (wm.map (zrE (zrg 76 21)) ++ [.inl (1, (1, .inr (.inl fo))), .inl (2, (1, .inr (.inr (.inr (.inl fd)))))])
/-- the first cell is an object of class c -/
def zHd (c : Nat) (w : zW) : Prop := ∃ fs t, w = .inr (c, fs) :: t
variable {wx wm : zW} {fo : Nat → Int64} {fd : Nat → UInt64}
theorem zLw_len (hx : wx.length = 76) (hm : wm.length = 21) : (zLw wx wm fo fd).length = 99 := by
  unfold zLw
  rw [List.length_append, List.length_append, List.length_map, List.length_map, hx, hm]
  rfl
theorem zLw_le (hx : wx.length = 76) (hm : wm.length = 21) : (zLw wx wm fo fd).length ≤ 1000 := by
  rw [zLw_len hx hm]; decide
theorem zLw_x (hx : wx.length = 76) : zIn (zrg 0 76) wx (zLw wx wm fo fd) := by
  refine ⟨by decide, by rw [hx, zrg_len], fun j k e hj he => ?_⟩
  have hjl : j < 76 := by rw [← hx]; exact (List.getElem?_eq_some_iff.mp he).1
  rw [zrg_get 76 0 j hjl] at hj
  have hk : 0 + j = k := Option.some.inj hj
  rw [Nat.zero_add] at hk
  subst hk
  unfold zLw
  rw [List.getElem?_append_left (by rw [List.length_map, hx]; exact hjl), List.getElem?_map, he]
  rfl
theorem zLw_m (hx : wx.length = 76) (hm : wm.length = 21) : zIn (zrg 76 21) wm (zLw wx wm fo fd) := by
  refine ⟨by decide, by rw [hm, zrg_len], fun j k e hj he => ?_⟩
  have hjl : j < 21 := by rw [← hm]; exact (List.getElem?_eq_some_iff.mp he).1
  rw [zrg_get 21 76 j hjl] at hj
  have hk : 76 + j = k := Option.some.inj hj
  subst hk
  unfold zLw
  rw [List.getElem?_append_right (by rw [List.length_map, hx]; omega), List.length_map, hx, Nat.add_sub_cancel_left, List.getElem?_append_left (by rw [List.length_map, hm]; exact hjl), List.getElem?_map, he]
  rfl
theorem zLw_px {wx' : zW} (hx : wx.length = 76) (hx' : wx'.length = 76) : zput (zLw wx wm fo fd) (zrg 0 76) wx' (zrE (zrg 0 76)) = zLw wx' wm fo fd := by
  have h := zput_seg (zrE (zrg 0 76)) (wm.map (zrE (zrg 76 21)) ++ [.inl (1, (1, .inr (.inl fo))), .inl (2, (1, .inr (.inr (.inr (.inl fd)))))]) (wx.map (zrE (zrg 0 76))) wx' [] (by rw [List.length_map, hx, hx'])
  rw [List.length_map, hx] at h
  exact h
theorem zLw_pm {wm' : zW} (hx : wx.length = 76) (hm : wm.length = 21) (hm' : wm'.length = 21) : zput (zLw wx wm fo fd) (zrg 76 21) wm' (zrE (zrg 76 21)) = zLw wx wm' fo fd := by
  have h := zput_seg (zrE (zrg 76 21)) [.inl (1, (1, .inr (.inl fo))), .inl (2, (1, .inr (.inr (.inr (.inl fd)))))] (wm.map (zrE (zrg 76 21))) wm' (wx.map (zrE (zrg 0 76))) (by rw [List.length_map, hm, hm'])
  rw [List.length_map, List.length_map, hx, hm] at h
  exact h
theorem zLw_re : zLw wx wm fo fd = (wx.map (zrE (zrg 0 76)) ++ wm.map (zrE (zrg 76 21))) ++ .inl (1, (1, .inr (.inl fo))) :: [.inl (2, (1, .inr (.inr (.inr (.inl fd)))))] := (List.append_assoc _ _ _).symm
theorem zLw_re2 : zLw wx wm fo fd = ((wx.map (zrE (zrg 0 76)) ++ wm.map (zrE (zrg 76 21))) ++ [.inl (1, (1, .inr (.inl fo)))]) ++ .inl (2, (1, .inr (.inr (.inr (.inl fd))))) :: [] := by
  rw [zLw_re]
  exact (List.append_assoc _ ([.inl (1, (1, .inr (.inl fo)))] : zW) ([.inl (2, (1, .inr (.inr (.inr (.inl fd)))))] : zW)).symm
theorem zLw_l1 (hx : wx.length = 76) (hm : wm.length = 21) : (wx.map (zrE (zrg 0 76)) ++ wm.map (zrE (zrg 76 21))).length = 97 := by
  rw [List.length_append, List.length_map, List.length_map, hx, hm]
theorem zLw_l2 (hx : wx.length = 76) (hm : wm.length = 21) : ((wx.map (zrE (zrg 0 76)) ++ wm.map (zrE (zrg 76 21))) ++ ([.inl (1, (1, .inr (.inl fo)))] : zW)).length = 98 := by
  rw [List.length_append, zLw_l1 hx hm]; rfl
theorem zg_o (hx : wx.length = 76) (hm : wm.length = 21) : zg (zLw wx wm fo fd) 97 = some (.inl (1, (1, .inr (.inl fo)))) := by
  have h := z_zg_app (.inl (1, (1, .inr (.inl fo))) : zE) [.inl (2, (1, .inr (.inr (.inr (.inl fd)))))] (wx.map (zrE (zrg 0 76)) ++ wm.map (zrE (zrg 76 21)))
  rw [zLw_l1 hx hm] at h
  rw [zLw_re]
  exact h
theorem zg_d (hx : wx.length = 76) (hm : wm.length = 21) : zg (zLw wx wm fo fd) 98 = some (.inl (2, (1, .inr (.inr (.inr (.inl fd)))))) := by
  have h := z_zg_app (.inl (2, (1, .inr (.inr (.inr (.inl fd))))) : zE) [] ((wx.map (zrE (zrg 0 76)) ++ wm.map (zrE (zrg 76 21))) ++ [.inl (1, (1, .inr (.inl fo)))])
  rw [zLw_l2 hx hm] at h
  rw [zLw_re2]
  exact h
theorem zs_o (hx : wx.length = 76) (hm : wm.length = 21) (go : Nat → Int64) : (zLw wx wm fo fd).set 97 (.inl (1, (1, .inr (.inl go)))) = zLw wx wm go fd := by
  have h := z_set_app (.inl (1, (1, .inr (.inl fo))) : zE) (.inl (1, (1, .inr (.inl go)))) [.inl (2, (1, .inr (.inr (.inr (.inl fd)))))] (wx.map (zrE (zrg 0 76)) ++ wm.map (zrE (zrg 76 21)))
  rw [zLw_l1 hx hm] at h
  rw [zLw_re, zLw_re]
  exact h
theorem zs_d (hx : wx.length = 76) (hm : wm.length = 21) (gd : Nat → UInt64) : (zLw wx wm fo fd).set 98 (.inl (2, (1, .inr (.inr (.inr (.inl gd)))))) = zLw wx wm fo gd := by
  have h := z_set_app (.inl (2, (1, .inr (.inr (.inr (.inl fd))))) : zE) (.inl (2, (1, .inr (.inr (.inr (.inl gd)))))) [] ((wx.map (zrE (zrg 0 76)) ++ wm.map (zrE (zrg 76 21))) ++ [.inl (1, (1, .inr (.inl fo)))])
  rw [zLw_l2 hx hm] at h
  rw [zLw_re2, zLw_re2]
  exact h
theorem zr_x {as : List Value} (h : zHd 7 wx) : zRecv (zLw wx wm fo fd) 7 (.ref 0 :: as) := by
  obtain ⟨fs, t, rfl⟩ := h
  exact rfl
theorem zr_m {as : List Value} (hx : wx.length = 76) (h : zHd 8 wm) : zRecv (zLw wx wm fo fd) 8 (.ref 76 :: as) := by
  obtain ⟨fs, t, rfl⟩ := h
  have hg : zg (zLw wx (.inr (8, fs) :: t) fo fd) 76 = some (.inr (8, fs.map (zv (zix (zrg 76 21))))) := by
    have h := z_zg_app (.inr (8, fs.map (zv (zix (zrg 76 21)))) : zE) (t.map (zrE (zrg 76 21)) ++ [.inl (1, (1, .inr (.inl fo))), .inl (2, (1, .inr (.inr (.inr (.inl fd)))))]) (wx.map (zrE (zrg 0 76)))
    rw [List.length_map, hx] at h
    exact h
  unfold zRecv
  dsimp only
  rw [hg]
theorem lw_x {l : Launch} {y : MethodName} {ws : List Cond} {d mc ms : Nat} {la av : List Value} {Φ Ψ : zO → zW → Prop} (hc : Can l y ws d mc ms la wx Φ) (hx : wx.length = 76) (hav : av = la.map (zv (zix (zrg 0 76)))) (h : ∀ o wx', Φ o wx' → wx'.length = 76 → Ψ (zrO (zrg 0 76) o) (zLw wx' wm fo fd)) : Can l y ws d mc ms av (zLw wx wm fo fd) Ψ := by
  rw [hav]
  refine (hc.frame (zrg 0 76) (zLw_x hx)).mono ?_
  rintro o w' ⟨o', wx', h1, rfl, h2, rfl⟩
  rw [zLw_px hx (h2.trans hx)]
  exact h o' wx' h1 (h2.trans hx)
theorem lw_m {l : Launch} {y : MethodName} {ws : List Cond} {d mc ms : Nat} {la av : List Value} {Φ Ψ : zO → zW → Prop} (hc : Can l y ws d mc ms la wm Φ) (hx : wx.length = 76) (hm : wm.length = 21) (hav : av = la.map (zv (zix (zrg 76 21)))) (h : ∀ o wm', Φ o wm' → wm'.length = 21 → Ψ (zrO (zrg 76 21) o) (zLw wx wm' fo fd)) : Can l y ws d mc ms av (zLw wx wm fo fd) Ψ := by
  rw [hav]
  refine (hc.frame (zrg 76 21) (zLw_m hx hm)).mono ?_
  rintro o w' ⟨o', wm', h1, rfl, h2, rfl⟩
  rw [zLw_pm hx hm (h2.trans hm)]
  exact h o' wm' h1 (h2.trans hm)
/-! what a wrapper answers: 0 and the answer in its row, or the place of the exception -/
def Tie (g : Int32 → Int64) (es : List String) (o9 : zO) (kq : Int32) (fo' : Nat → Int64) : Prop := (∃ v, o9 = .inl (some (.int v)) ∧ kq = 0 ∧ fo' 0 = g v) ∨ ∃ (i : Nat) (E : String), es[i]? = some E ∧ o9 = .inr E ∧ kq = nI (i + 1)
def WI (g : Int32 → Int64) (es : List String) (Φ : zO → zW → Prop) (wm : zW) (fd : Nat → UInt64) : Option Value → zW → Prop := fun o w' => ∃ (o9 : zO) (wx' : zW) (kq : Int32) (fo' : Nat → Int64), Φ o9 wx' ∧ wx'.length = 76 ∧ o = some (.int kq) ∧ w' = zLw wx' wm fo' fd ∧ Tie g es o9 kq fo'
def WD (Φ : zO → zW → Prop) (wm : zW) (fo : Nat → Int64) : Option Value → zW → Prop := fun o w' => ∃ (o9 : zO) (wx' : zW) (kq : Int32) (fd' : Nat → UInt64), Φ o9 wx' ∧ wx'.length = 76 ∧ o = some (.int kq) ∧ w' = zLw wx' wm fo fd' ∧ ((∃ v, o9 = .inl (some (.double v)) ∧ kq = 0 ∧ fd' 0 = v) ∨ (o9 = .inr "java/lang/IllegalStateException" ∧ kq = 1))
theorem Tie.join {g : Int32 → Int64} {es : List String} {o9 : zO} {kq r v : Int32} {fo' : Nat → Int64} (h : Tie g es o9 kq fo') (ha : AgI es o9 r v) (hn : es.Nodup) (hl : es.length ≤ 3) : r = kq ∧ (kq = 0 → fo' 0 = g v) := by
  rcases h with ⟨u, rfl, rfl, h3⟩ | ⟨i, E, h1, rfl, rfl⟩
  · rcases ha with ⟨e1, rfl⟩ | ⟨j, E, e1, e2, e3⟩
    · have : u = v := by
        injection e1 with e1
        injection e1 with e1
        injection e1
      subst this
      exact ⟨rfl, fun _ => h3⟩
    · cases e2
  · rcases ha with ⟨e1, rfl⟩ | ⟨j, E', e1, e2, rfl⟩
    · cases e1
    · have : E = E' := by injection e2
      subst this
      have hi := (List.getElem?_eq_some_iff.mp h1).1
      have : i = j := (List.getElem?_inj hi hn).mp (h1.trans e1.symm)
      subst this
      refine ⟨rfl, fun h0 => ?_⟩
      rw [show (0 : Int32) = nI 0 from rfl, nI_eq (by omega) (by omega)] at h0
      omega
theorem Jr.len {r : Int32} (h : Jr r wx wm) : wx.length = 76 ∧ wm.length = 21 ∧ zHd 7 wx ∧ zHd 8 wm := by
  obtain ⟨S, mc, L, N, tx, hI, ⟨ixa, wr, om, db, fs, ftx, fo, ⟨ch, fm, fr, fd, fp, fg, fF, fL, fA, sF, sL, sW, fO, rw, br, st, bs, du, rfl, -⟩, -⟩, -⟩ := h
  unfold IsFa at hI
  obtain ⟨_, _, _, _, _, _, _, _, _, _, _, _, _, _, _, _, _, _, _, _, _, _, _, _, _, _, _, _, _, _, _, _, _, _, _, _, _, _, _, _, _, _, _, _, _, _, _, _, _, _, _, _, _, _, _, _, rfl, -⟩ := hI
  exact ⟨rfl, rfl, ⟨_, _, rfl⟩, ⟨_, _, rfl⟩⟩
theorem Jr.th {l : Launch} (hfl : l.stackTraces = false) {r : Int32} (h : Jr r wx wm) : Can l yX8_thrown wsX8_thrown 0 0 0 [.ref 0] wm (fun o w' => o = .inl (some (.int r)) ∧ w' = wm) := by
  obtain ⟨S, mc, L, N, tx, hI, hM, -⟩ := h
  exact r_thrown hfl hM
end LW
