/-! CLASS ORDERTEXT -/
section OT
def zTx (ln kd tm tr td tp ta tb atp ft : Int32) (fy : Nat → Int32) : zW := [.inr (3, [.int ln, .int kd, .int tm, .int tr, .int td, .int tp, .int ta, .int tb, .ref 1, .int atp, .int ft]), .inl (3, (100, .inl fy))]
variable {l : Launch} {kd tm tr td tp ta tb atp ft : Int32} {fy : Nat → Int32} {n : Nat} {tx : Nat → Nat}
/-- the bytes hold the text -/
def FyR (n : Nat) (tx : Nat → Nat) (fy : Nat → Int32) : Prop := ∀ k, k < n → fy k = nI (tx k)
end OT
