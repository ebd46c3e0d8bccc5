/-! THE REFERENCE: saving, taking back, starting, adding, dates, giving -/
section MO24
variable {l : Launch} {th mc n sv ty ch ixa wr om : Int32} {db : Int64} {fm fr fd fp fg fs ftx fF fL fA sF sL sW fO rw br st bs du fo : Nat → Int32}
theorem n42 {m : Nat} (h : m ≤ 4) : nI m * 42 = nI (42 * m) := by
  rcases (show m = 0 ∨ m = 1 ∨ m = 2 ∨ m = 3 ∨ m = 4 by omega) with rfl | rfl | rfl | rfl | rfl <;> decide
end MO24
