/-! THE REFERENCE: queries of two tasks -/
section MO10
variable {l : Launch} {th mc n sv ty ch ixa wr om : Int32} {db : Int64} {fm fr fd fp fg fs ftx fF fL fA sF sL sW fO rw br st bs du fo : Nat → Int32}
theorem nI_a {S : TS} (hn : tn S ≤ 8) {a b : Int32} (h : (tIs S a && tIs S b) = true) : ∃ i j, i < tn S ∧ j < tn S ∧ a = nI i ∧ b = nI j := by
  rw [Bool.and_eq_true] at h
  obtain ⟨i, hi, ea⟩ := tIs_nI hn h.1
  obtain ⟨j, hj, eb⟩ := tIs_nI hn h.2
  exact ⟨i, j, hi, hj, ea, eb⟩
end MO10
