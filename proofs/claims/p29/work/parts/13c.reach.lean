/-! ROWS OF GIVEN PRECEDENCES: the least closed set -/
section RC1
def Sub (a b : Nat) : Prop := ∀ i, a.testBit i = true → b.testBit i = true
theorem Sub.rf (a : Nat) : Sub a a := fun _ h => h
theorem Sub.tr {a b c : Nat} (h : Sub a b) (h2 : Sub b c) : Sub a c := fun i hi => h2 i (h i hi)
theorem Sub.eq {a b : Nat} (h : Sub a b) (h2 : Sub b a) : a = b := by
  apply Nat.eq_of_testBit_eq
  intro i
  cases ha : a.testBit i
  · cases hb : b.testBit i
    · rfl
    · rw [h2 i hb] at ha; cases ha
  · rw [h i ha]
theorem Sub_or_l (a b : Nat) : Sub a (a ||| b) := fun i h => by rw [Nat.testBit_or, h]; rfl
theorem Sub_or_r (a b : Nat) : Sub b (a ||| b) := fun i h => by rw [Nat.testBit_or, h]; simp
theorem Sub_or {a b c : Nat} (h : Sub a c) (h2 : Sub b c) : Sub (a ||| b) c := fun i hi => by
  rw [Nat.testBit_or, Bool.or_eq_true] at hi
  exact hi.elim (h i) (h2 i)
/-- closed under the sets G of its members below n -/
def RCl (n : Nat) (G : Nat → Nat) (R : Nat) : Prop := ∀ t, t < n → R.testBit t = true → Sub (G t) R
def IsReach (n : Nat) (G : Nat → Nat) (x R : Nat) : Prop := Sub (G x) R ∧ RCl n G R ∧ ∀ R', Sub (G x) R' → RCl n G R' → Sub R R'
theorem IsReach.uniq {n : Nat} {G : Nat → Nat} {x R R' : Nat} (h : IsReach n G x R) (h' : IsReach n G x R') : R = R' := (h.2.2 R' h'.1 h'.2.1).eq (h'.2.2 R h.1 h.2.1)
theorem pop_mono {a b : Nat} (h : Sub a b) : ∀ k, pop a k ≤ pop b k
  | 0 => Nat.le_refl _
  | k + 1 => by
    have := pop_mono h k
    rw [pop, pop]
    by_cases ha : a.testBit k = true
    · rw [if_pos ha, if_pos (h k ha)]; omega
    · rw [if_neg ha]; split <;> omega
theorem pop_lt {a b : Nat} (h : Sub a b) {t : Nat} (hb : b.testBit t = true) (ha : a.testBit t = false) : ∀ k, t < k → pop a k < pop b k
  | 0, hk => absurd hk (Nat.not_lt_zero _)
  | k + 1, hk => by
    rw [pop, pop]
    by_cases htk : t = k
    · subst htk
      have := pop_mono h t
      rw [ha, hb]; simp; omega
    · have := pop_lt h hb ha k (by omega)
      by_cases hx : a.testBit k = true
      · rw [if_pos hx, if_pos (h k hx)]; omega
      · rw [if_neg hx]; split <;> omega
theorem pop_full {a n : Nat} (h : pop a n = n) : ∀ t, t < n → a.testBit t = true := by
  induction n with
  | zero => intro t ht; exact absurd ht (Nat.not_lt_zero _)
  | succ n ih =>
    intro t ht
    rw [pop] at h
    have h1 := pop_le a n
    by_cases hx : a.testBit n = true
    · rw [if_pos hx] at h
      rcases Nat.lt_or_ge t n with h2 | h2
      · exact ih (by omega) t h2
      · have : t = n := by omega
        subst this; exact hx
    · rw [if_neg hx] at h; omega
/-- a row of sets that grows until it is closed is closed behind n steps -/
theorem grow_closed {n : Nat} {G : Nat → Nat} (hG : ∀ t, t < n → G t < 2 ^ n) {r : Nat → Nat} (hr0 : r 0 < 2 ^ n) (hgrow : ∀ k, Sub (r k) (r (k + 1))) (hlt : ∀ k, r k < 2 ^ n) (hstep : ∀ k t, t < n → (r k).testBit t = true → Sub (G t) (r (k + 1))) (hstop : ∀ k, r (k + 1) = r k → r (k + 2) = r (k + 1)) : RCl n G (r n) := by
  have key : ∀ k, (r (k + 1) = r k) ∨ k + 1 ≤ pop (r (k + 1)) n := by
    intro k
    induction k with
    | zero =>
      by_cases h : r 1 = r 0
      · exact Or.inl h
      · right
        have : ¬ Sub (r 1) (r 0) := fun hs => h (hs.eq (hgrow 0))
        simp only [Sub, Classical.not_forall] at this
        obtain ⟨t, ht1, ht2⟩ := this
        have := pop_lt (hgrow 0) ht1 (by simpa using ht2) n (bit_lt (hlt 1) ht1)
        omega
    | succ k ih =>
      by_cases h : r (k + 2) = r (k + 1)
      · exact Or.inl h
      · rcases ih with h1 | h1
        · exact absurd (hstop k h1) h
        · right
          have : ¬ Sub (r (k + 2)) (r (k + 1)) := fun hs => h (hs.eq (hgrow (k + 1)))
          simp only [Sub, Classical.not_forall] at this
          obtain ⟨t, ht1, ht2⟩ := this
          have := pop_lt (hgrow (k + 1)) ht1 (by simpa using ht2) n (bit_lt (hlt (k + 2)) ht1)
          omega
  intro t ht htb
  cases n with
  | zero => exact absurd ht (Nat.not_lt_zero _)
  | succ m =>
    have h2 := hstep (m + 1) t ht htb
    by_cases h : r (m + 2) = r (m + 1)
    · rw [h] at h2; exact h2
    · rcases key m with h1 | h1
      · exact absurd (hstop m h1) h
      · have hf := pop_full (show pop (r (m + 1)) (m + 1) = m + 1 by have := pop_le (r (m + 1)) (m + 1); omega)
        intro i hi
        exact hf i (bit_lt (hG t ht) hi)
end RC1
