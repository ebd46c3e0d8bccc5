/-! SETS OF TASKS: the least first start, the greatest last end -/
section ST1
def mnF (F : Nat → Int) (T : Nat) : Nat → Int
  | 0 => 1000000
  | k + 1 => if T.testBit k then min (mnF F T k) (F k) else mnF F T k
def mxL (L : Nat → Int) (T : Nat) : Nat → Int
  | 0 => -1000000
  | k + 1 => if T.testBit k then max (mxL L T k) (L k) else mxL L T k
theorem mnF_congr {F F' : Nat → Int} {T T' : Nat} : ∀ {k : Nat}, (∀ t, t < k → T.testBit t = T'.testBit t ∧ F t = F' t) → mnF F T k = mnF F' T' k
  | 0, _ => rfl
  | k + 1, h => by rw [mnF, mnF, (h k (by omega)).1, (h k (by omega)).2, mnF_congr (fun t ht => h t (by omega))]
theorem mxL_congr {F F' : Nat → Int} {T T' : Nat} : ∀ {k : Nat}, (∀ t, t < k → T.testBit t = T'.testBit t ∧ F t = F' t) → mxL F T k = mxL F' T' k
  | 0, _ => rfl
  | k + 1, h => by rw [mxL, mxL, (h k (by omega)).1, (h k (by omega)).2, mxL_congr (fun t ht => h t (by omega))]
theorem sSum_congr {P : Nat → Nat} {T T' : Nat} : ∀ {k : Nat}, (∀ t, t < k → T.testBit t = T'.testBit t) → sSum P T k = sSum P T' k
  | 0, _ => rfl
  | k + 1, h => by rw [sSum, sSum, h k (by omega), sSum_congr (fun t ht => h t (by omega))]
theorem mnF_le {F : Nat → Int} {T : Nat} : ∀ {k t : Nat}, t < k → T.testBit t = true → mnF F T k ≤ F t
  | 0, t, h, _ => absurd h (Nat.not_lt_zero _)
  | k + 1, t, h, hb => by
    rw [mnF]
    by_cases hk : t = k
    · subst hk; rw [if_pos hb]; omega
    · have := mnF_le (F := F) (k := k) (by omega) hb
      split <;> omega
theorem mnF_at {F : Nat → Int} {T : Nat} : ∀ {k : Nat}, (∃ t, t < k ∧ T.testBit t = true) → (∀ t, t < k → F t ≤ 1000000) → ∃ t, t < k ∧ T.testBit t = true ∧ mnF F T k = F t
  | 0, ⟨t, h, _⟩, _ => absurd h (Nat.not_lt_zero _)
  | k + 1, ⟨t, h, hb⟩, hF => by
    rw [mnF]
    by_cases hk : T.testBit k = true
    · rw [if_pos hk]
      by_cases h2 : F k ≤ mnF F T k
      · exact ⟨k, by omega, hk, by omega⟩
      · by_cases h3 : ∃ t, t < k ∧ T.testBit t = true
        · obtain ⟨u, u1, u2, u3⟩ := mnF_at (F := F) (T := T) (k := k) h3 (fun t ht => hF t (by omega))
          exact ⟨u, by omega, u2, by omega⟩
        · exfalso
          have : mnF F T k = 1000000 := by
            have h4 : ∀ j, j ≤ k → mnF F T j = 1000000 := by
              intro j
              induction j with
              | zero => intro _; rfl
              | succ j ih =>
                intro hj
                rw [mnF, if_neg (fun hb => h3 ⟨j, by omega, hb⟩)]
                exact ih (by omega)
            exact h4 k (Nat.le_refl _)
          have := hF k (by omega)
          omega
    · rw [if_neg hk]
      have : t ≠ k := fun e => hk (by rw [← e]; exact hb)
      obtain ⟨u, u1, u2, u3⟩ := mnF_at (F := F) (T := T) (k := k) ⟨t, by omega, hb⟩ (fun t ht => hF t (by omega))
      exact ⟨u, by omega, u2, u3⟩
theorem mxL_neg (L : Nat → Int) (T : Nat) : ∀ k, mxL L T k = - mnF (fun t => - L t) T k
  | 0 => rfl
  | k + 1 => by
    rw [mxL, mnF, mxL_neg L T k]
    split <;> omega
theorem mxL_ge {L : Nat → Int} {T k t : Nat} (h : t < k) (hb : T.testBit t = true) : L t ≤ mxL L T k := by
  rw [mxL_neg]
  have := mnF_le (F := fun t => - L t) h hb
  omega
theorem mxL_at {L : Nat → Int} {T k : Nat} (h : ∃ t, t < k ∧ T.testBit t = true) (hL : ∀ t, t < k → -1000000 ≤ L t) : ∃ t, t < k ∧ T.testBit t = true ∧ mxL L T k = L t := by
  obtain ⟨t, h1, h2, h3⟩ := mnF_at (F := fun t => - L t) h (fun t ht => by have := hL t ht; omega)
  exact ⟨t, h1, h2, by rw [mxL_neg, h3]; omega⟩
theorem mnF_bnd {F : Nat → Int} {T : Nat} {c : Int} (hc : c ≤ 1000000) : ∀ {k : Nat}, (∀ t, t < k → c ≤ F t) → c ≤ mnF F T k ∧ mnF F T k ≤ 1000000
  | 0, _ => ⟨hc, Int.le_refl _⟩
  | k + 1, h => by
    have h1 := mnF_bnd (F := F) (T := T) hc (k := k) (fun t ht => h t (by omega))
    have h2 := h k (by omega)
    rw [mnF]
    split <;> omega
theorem mxL_bnd {L : Nat → Int} {T : Nat} {c : Int} (hc : -1000000 ≤ c) {k : Nat} (h : ∀ t, t < k → L t ≤ c) : mxL L T k ≤ c ∧ -1000000 ≤ mxL L T k := by
  rw [mxL_neg]
  have := mnF_bnd (F := fun t => - L t) (T := T) (c := -c) (by omega) (k := k) (fun t ht => by have := h t ht; omega)
  omega
theorem sSum_le {P : Nat → Nat} {T c : Nat} : ∀ {k : Nat}, (∀ t, t < k → P t ≤ c) → sSum P T k ≤ k * c
  | 0, _ => by simp [sSum]
  | k + 1, h => by
    have h1 := sSum_le (P := P) (T := T) (c := c) (k := k) (fun t ht => h t (by omega))
    have h2 := h k (by omega)
    rw [sSum, Nat.succ_mul]
    split <;> omega
/-- a comparison of a set's least first start with another's greatest last end, over all members -/
theorem mn_gt_mx {F L : Nat → Int} {T T' n : Nat} {c : Int} (hT : ∃ t, t < n ∧ T.testBit t = true) (hT' : ∃ t, t < n ∧ T'.testBit t = true) (hTn : T < 2 ^ n) (hTn' : T' < 2 ^ n) (hF : ∀ t, t < n → F t ≤ 1000000) (hL : ∀ t, t < n → -1000000 ≤ L t) : mnF F T n + c > mxL L T' n ↔ ∀ x y, T.testBit x = true → T'.testBit y = true → F x + c > L y := by
  constructor
  · intro h x y hx hy
    have := mnF_le (F := F) (bit_lt hTn hx) hx
    have := mxL_ge (L := L) (bit_lt hTn' hy) hy
    omega
  · intro h
    obtain ⟨x, x1, x2, x3⟩ := mnF_at hT hF
    obtain ⟨y, y1, y2, y3⟩ := mxL_at hT' hL
    have := h x y x2 y2
    omega
theorem bit_pow_or {t r x : Nat} (hr : r < 2 ^ t) : (2 ^ t ||| r).testBit x = (decide (x = t) || r.testBit x) := by
  rw [Nat.testBit_or, Nat.testBit_two_pow]
  congr 1
  exact decide_eq_decide.mpr ⟨Eq.symm, Eq.symm⟩
theorem bit_none {r t x : Nat} (hr : r < 2 ^ t) (hx : t ≤ x) : r.testBit x = false := Nat.testBit_lt_two_pow (Nat.lt_of_lt_of_le hr (Nat.pow_le_pow_right (by decide) hx))
theorem mnF_top {F : Nat → Int} {t r : Nat} (hr : r < 2 ^ t) : mnF F (2 ^ t ||| r) (t + 1) = min (mnF F r t) (F t) := by
  rw [mnF, if_pos (by rw [bit_pow_or hr]; simp)]
  rw [mnF_congr (T' := r) (F' := F) (fun x hx => ⟨by rw [bit_pow_or hr]; have : ¬ x = t := by omega
                                                     simp [this], rfl⟩)]
theorem mxL_top {L : Nat → Int} {t r : Nat} (hr : r < 2 ^ t) : mxL L (2 ^ t ||| r) (t + 1) = max (mxL L r t) (L t) := by
  rw [mxL, if_pos (by rw [bit_pow_or hr]; simp)]
  rw [mxL_congr (T' := r) (F' := L) (fun x hx => ⟨by rw [bit_pow_or hr]; have : ¬ x = t := by omega
                                                     simp [this], rfl⟩)]
theorem sSum_top {P : Nat → Nat} {t r : Nat} (hr : r < 2 ^ t) : sSum P (2 ^ t ||| r) (t + 1) = sSum P r t + P t := by
  rw [sSum, if_pos (by rw [bit_pow_or hr]; simp), Nat.add_comm]
  congr 1
  exact sSum_congr (fun x hx => by rw [bit_pow_or hr]; have : ¬ x = t := by omega
                                   simp [this])
theorem mnF_low {F : Nat → Int} {t r : Nat} (hr : r < 2 ^ t) : mnF F r (t + 1) = mnF F r t := by rw [mnF, if_neg (by rw [bit_none hr (Nat.le_refl _)]; decide)]
theorem mxL_low {L : Nat → Int} {t r : Nat} (hr : r < 2 ^ t) : mxL L r (t + 1) = mxL L r t := by rw [mxL, if_neg (by rw [bit_none hr (Nat.le_refl _)]; decide)]
theorem sSum_low {P : Nat → Nat} {t r : Nat} (hr : r < 2 ^ t) : sSum P r (t + 1) = sSum P r t := by rw [sSum, if_neg (by rw [bit_none hr (Nat.le_refl _)]; decide), Nat.zero_add]
/-- a set with top place t -/
theorem top_split {T t : Nat} (h1 : 2 ^ t ≤ T) (h2 : T < 2 ^ (t + 1)) : ∃ r, r < 2 ^ t ∧ T = 2 ^ t ||| r := by
  refine ⟨T - 2 ^ t, by rw [Nat.pow_succ] at h2; omega, ?_⟩
  have hr : T - 2 ^ t < 2 ^ t := by rw [Nat.pow_succ] at h2; omega
  have := Nat.two_pow_add_eq_or_of_lt hr 1
  rw [Nat.mul_one] at this
  rw [← this]; omega
theorem iI_an (a : Int) (n : Nat) : iI a + nI n = iI (a + (n : Int)) := by rw [iI_n, iI_add]
theorem iI_sn (a : Int) (n : Nat) : iI a - nI n = iI (a - (n : Int)) := by rw [iI_n, iI_sub]
end ST1
