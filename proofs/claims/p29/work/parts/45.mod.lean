/-! THE REFERENCE: taking back, starting, adding, dates, giving -/
section MO25
variable {l : Launch} {th mc n sv ty ch ixa wr om : Int32} {db : Int64} {fm fr fd fp fg fs ftx fF fL fA sF sL sW fO rw br st bs du fo : Nat → Int32}
theorem fAdd_0 {mc n : Nat} {m r d p : Int32} (hmc : mc ≤ 3) (h : fAdd mc n m r d p = 0) : ∃ m' r' d' p' : Nat, m = nI m' ∧ r = nI r' ∧ d = nI d' ∧ p = nI p' ∧ m' < mc ∧ r' ≤ 200 ∧ d' ≤ 400 ∧ 1 ≤ p' ∧ p' ≤ 50 ∧ n < 8 := by
  unfold fAdd at h
  split at h
  · cases h
  next h1 =>
  split at h
  · cases h
  next h2 =>
  split at h
  · cases h
  next h3 =>
  rw [Classical.not_not] at h1 h2
  obtain ⟨⟨⟨r1, r2⟩, d1, d2⟩, p1, p2⟩ := h2
  obtain ⟨m', km, rfl⟩ := nI_of (x := m) (Int32.not_lt.mpr h1.1)
  obtain ⟨r', kr, rfl⟩ := nI_of (x := r) (Int32.not_lt.mpr r1)
  obtain ⟨d', kd, rfl⟩ := nI_of (x := d) (Int32.not_lt.mpr (Int32.le_trans (by decide) d1))
  obtain ⟨p', kp, rfl⟩ := nI_of (x := p) (Int32.not_lt.mpr (Int32.le_trans (by decide) p1))
  have m2 := (nI_ltI km (by omega)).mp h1.2
  have r3 := (nI_leI (b := 200) kr (by omega)).mp r2
  have d3 := (nI_leI (b := 400) kd (by omega)).mp d2
  have p3 := (nI_leI (b := 50) kp (by omega)).mp p2
  have p4 := (nI_leI (a := 1) (by omega) kp).mp p1
  exact ⟨m', r', d', p', rfl, rfl, rfl, rfl, m2, r3, d3, p4, p3, by omega⟩
theorem fG_0 {S : TS} (hn : tn S ≤ 8) {a b : Int32} {h : Bool} (hg : fG S a b h = 0) : ∃ i j, i < tn S ∧ j < tn S ∧ a = nI i ∧ b = nI j ∧ i ≠ j ∧ (h = true → (rr S j).testBit i = false) := by
  unfold fG at hg
  split at hg
  · next hc =>
    obtain ⟨i, j, hi, hj, rfl, rfl⟩ := nI_a hn hc
    rw [cl (by omega), cl (by omega)] at hg
    unfold fGive at hg
    split at hg
    · cases hg
    next h1 =>
    split at hg
    · cases hg
    next h2 =>
    refine ⟨i, j, hi, hj, rfl, rfl, h1, fun ht => ?_⟩
    cases hr : (rr S j).testBit i
    · rfl
    · exact absurd (Or.inr ⟨ht, hr⟩) h2
  · cases hg
theorem fG_le {S : TS} {a b : Int32} {h : Bool} : fG S a b h ≤ 3 := by
  unfold fG fGive
  split
  · split
    · omega
    · split <;> omega
  · omega
end MO25
