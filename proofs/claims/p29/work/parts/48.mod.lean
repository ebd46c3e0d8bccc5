/-! THE REFERENCE: the best plan -/
section MO28
variable {l : Launch} {th mc n sv ty ch ixa wr om : Int32} {db : Int64} {fm fr fd fp fg fs ftx fF fL fA sF sL sW fO rw br st bs du fo : Nat → Int32}
theorem planR_le {S : TS} {mcN : Nat} (hok : TSok S mcN) {ρ : Nat → Nat} (h : plB S ρ (tn S) = true) (hr : ∀ j, j < tn S → ρ j < tn S) : msA S ρ (tn S) ≤ 400 := by
  have : ∀ k, k ≤ tn S → plB S ρ k = true → msA S ρ k ≤ 400 := by
    intro k
    induction k with
    | zero => intro _ _; exact Nat.zero_le _
    | succ k ih =>
      intro hk hb
      rw [plB, Bool.and_eq_true, decide_eq_true_iff] at hb
      have h1 := ih (by omega) hb.1
      have h2 := (hok.2.2.2 _ (hr k (by omega))).2.2.2.1
      rw [msA]
      omega
  exact this _ (Nat.le_refl _) h
end MO28
