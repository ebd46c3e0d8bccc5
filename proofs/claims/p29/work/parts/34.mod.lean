/-! THE REFERENCE: refusals of giving -/
section MO14
variable {l : Launch} {th mc n sv ty ch ixa wr om : Int32} {db : Int64} {fm fr fd fp fg fs ftx fF fL fA sF sL sW fO rw br st bs du fo : Nat → Int32}
/-- refusal of giving or taking: of any two numbers -/
def fG (S : TS) (a b : Int32) (h : Bool) : Nat := if (tIs S a && tIs S b) = true then fGive S a.toNatClampNeg b.toNatClampNeg h else 1
end MO14
