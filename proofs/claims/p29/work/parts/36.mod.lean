/-! THE REFERENCE: rows of tasks -/
section MO16
variable {l : Launch} {th mc n sv ty ch ixa wr om : Int32} {db : Int64} {fm fr fd fp fg fs ftx fF fL fA sF sL sW fO rw br st bs du fo : Nat → Int32}
/-- the set of the first tasks of a row -/
def rs (ρ : Nat → Nat) : Nat → Nat
  | 0 => 0
  | k + 1 => rs ρ k ||| 2 ^ ρ k
theorem rs_bit {ρ : Nat → Nat} {t : Nat} : ∀ k, (rs ρ k).testBit t = true ↔ ∃ j, j < k ∧ ρ j = t
  | 0 => by simp [rs]
  | k + 1 => by
    rw [rs, Nat.testBit_or, Bool.or_eq_true, rs_bit k, Nat.testBit_two_pow, decide_eq_true_iff]
    constructor
    · rintro (⟨j, h1, h2⟩ | h)
      · exact ⟨j, by omega, h2⟩
      · exact ⟨k, by omega, h⟩
    · rintro ⟨j, h1, h2⟩
      by_cases e : j = k
      · subst e; exact Or.inr h2
      · exact Or.inl ⟨j, by omega, h2⟩
theorem rs_lt {ρ : Nat → Nat} {m : Nat} : ∀ k, (∀ j, j < k → ρ j < m) → rs ρ k < 2 ^ m
  | 0, _ => Nat.two_pow_pos m
  | k + 1, h => Nat.or_lt_two_pow (rs_lt k (fun j hj => h j (by omega))) (Nat.pow_lt_pow_right (by decide) (h k (by omega)))
/-- a task can stand behind a set -/
def csB (S : TS) (R t : Nat) : Bool := !R.testBit t && decide (nd (tA S t) R = 0)
end MO16
