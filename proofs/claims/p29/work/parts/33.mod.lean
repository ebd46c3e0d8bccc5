/-! THE REFERENCE: leads -/
section MO13
/-- one pass over all tasks, each in the set as it stands -/
def gs (G : Nat → Nat) (R : Nat) : Nat → Nat
  | 0 => R
  | t + 1 => if (gs G R t).testBit t then gs G R t ||| G t else gs G R t
def gr (G : Nat → Nat) (n x : Nat) : Nat → Nat
  | 0 => G x
  | k + 1 => gs G (gr G n x k) n
variable {l : Launch} {th mc n sv ty ch ixa wr om : Int32} {db : Int64} {fm fr fd fp fg fs ftx fF fL fA sF sL sW fO rw br st bs du fo : Nat → Int32}
end MO13
