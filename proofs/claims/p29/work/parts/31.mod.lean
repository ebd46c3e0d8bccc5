/-! THE REFERENCE: numbers -/
section MO11
variable {l : Launch} {th mc n sv ty ch ixa wr om : Int32} {db : Int64} {fm fr fd fp fg fs ftx fF fL fA sF sL sW fO rw br st bs du fo : Nat → Int32}
/-- the numbers that value answers -/
def NumR (S : TS) (mcN : Nat) (x : Int) (v : Int32) : Prop := (x = 0 → v = nI mcN) ∧ (x = 1 → v = nI (tn S)) ∧ (x = 2 → v = nI (gMany S)) ∧ (x = 3 → v = nI (nPairs S)) ∧ (x = 4 → (RGood S ∧ v = 0) ∨ (¬ RGood S ∧ v = 1)) ∧ (x < 0 ∨ 5 ≤ x → (∃ F L B, RLeast S F L B ∧ v = nI (nOpen S B)) ∨ (¬ RGood S ∧ v = -1))
end MO11
