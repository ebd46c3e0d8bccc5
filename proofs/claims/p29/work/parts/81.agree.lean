/-! AGREEMENT: what both sides tell is one thing -/
section AG
theorem LsR_ex (S : TS) (F L : Nat → Int) (a b : Nat) : ∃ q, LsR S F L a b q := by
  by_cases h : ∃ T, lsP S F L a b T
  · have : ∀ m T, T ≤ m → lsP S F L a b T → ∃ q, LsR S F L a b q := by
      intro m
      induction m with
      | zero =>
        intro T hT hp
        have : T = 0 := by omega
        subst this
        exact ⟨0, Or.inr ⟨0, rfl, hp, fun T' hT' => absurd hT' (Nat.not_lt_zero _)⟩⟩
      | succ m ih =>
        intro T hT hp
        by_cases e : ∃ T', T' < T ∧ lsP S F L a b T'
        · obtain ⟨T', h1, h2⟩ := e
          exact ih T' (by omega) h2
        · exact ⟨T, Or.inr ⟨T, rfl, hp, fun T' hT' hq => e ⟨T', hT', hq⟩⟩⟩
    obtain ⟨T, hT⟩ := h
    exact this T T (Nat.le_refl _) hT
  · exact ⟨-1, Or.inl ⟨rfl, fun T hT => h ⟨T, hT⟩⟩⟩
/-- the class's end and the reference's: the same answer, or a refusal that the list names by its place -/
def AgI (es : List String) (o : zO) (r v : Int32) : Prop := (o = .inl (some (.int v)) ∧ r = 0) ∨ ∃ (i : Nat) (E : String), es[i]? = some E ∧ o = .inr E ∧ r = nI (i + 1)
theorem AgI.ok {es : List String} {o : zO} {r v u : Int32} (ho : o = .inl (some (.int u))) (hr : r = 0) (hv : u = v) : AgI es o r v := Or.inl ⟨by rw [ho, hv], hr⟩
end AG
