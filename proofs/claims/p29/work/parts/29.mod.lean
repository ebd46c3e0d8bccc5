/-! THE REFERENCE: queries -/
section MO9
variable {l : Launch} {th mc n sv ty ch ixa wr om : Int32} {db : Int64} {fm fr fd fp fg fs ftx fF fL fA sF sL sW fO rw br st bs du fo : Nat → Int32}
theorem tIs_nI {S : TS} (hn : tn S ≤ 8) {t : Int32} (h : tIs S t = true) : ∃ k, k < tn S ∧ t = nI k := by
  obtain ⟨h1, h2⟩ := of_decide_eq_true h
  exact isT_nI hn ⟨h1, h2⟩
theorem Why.le {S : TS} {okb : Bool} {g : (Nat → Int) → (Nat → Int) → (Nat → Nat) → Prop} {r : Int32} (h : Why S okb g r) (hr : r ≤ 0) : okb = true ∧ r = 0 ∧ ∃ F L B, RLeast S F L B ∧ g F L B := by
  rcases h with ⟨-, rfl⟩ | ⟨-, rfl, -⟩ | h
  · exact absurd hr (by decide)
  · exact absurd hr (by decide)
  · exact h
theorem Why.gt {S : TS} {okb : Bool} {g : (Nat → Int) → (Nat → Int) → (Nat → Nat) → Prop} {r : Int32} (h : Why S okb g r) (hr : ¬ r ≤ 0) (g' : (Nat → Int) → (Nat → Int) → (Nat → Nat) → Prop) : Why S okb g' r ∧ r ≠ 0 := by
  rcases h with ⟨h1, rfl⟩ | ⟨h1, rfl, h2⟩ | ⟨-, rfl, -⟩
  · exact ⟨Or.inl ⟨h1, rfl⟩, by decide⟩
  · exact ⟨Or.inr (Or.inl ⟨h1, rfl, h2⟩), by decide⟩
  · exact absurd (Int32.le_refl _) hr
end MO9
