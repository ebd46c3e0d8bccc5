/-! THE REFERENCE: what the law asks of the reasoning -/
section MO8
variable {l : Launch} {th mc n sv ty ch ixa wr om : Int32} {db : Int64} {fm fr fd fp fg fs ftx fF fL fA sF sL sW fO rw br st bs du fo : Nat → Int32}
/-- the refusals: 0 with what follows, 1 (no such task), 2 (a contradiction) -/
def Why (S : TS) (okb : Bool) (g : (Nat → Int) → (Nat → Int) → (Nat → Nat) → Prop) (r : Int32) : Prop := (okb = false ∧ r = 1) ∨ (okb = true ∧ r = 2 ∧ ¬ RGood S) ∨ (okb = true ∧ r = 0 ∧ ∃ F L B, RLeast S F L B ∧ g F L B)
def tIs (S : TS) (t : Int32) : Bool := decide (0 ≤ t ∧ t < nI (tn S))
end MO8
