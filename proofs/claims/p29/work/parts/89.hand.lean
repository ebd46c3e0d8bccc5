/-! METHODS WITH A TABLE OF HANDLERS; calls of such -/
section HH
/-- what never throws -/
theorem Can.toM {l : Launch} {y : MethodName} {ws : List Cond} {d mc ms : Nat} {av : List Value} {w : zW} {Φ : zO → zW → Prop} (h : Can l y ws d mc ms av w Φ) (hn : ∀ E w', ¬ Φ (.inr E) w') : CanM l y ws d mc ms av w (fun r w' => Φ (.inl r) w') := by
  intro D dA ad sz p e h1 h2 h3 s m args below h4 h5 h6 h7
  obtain ⟨n, o, k1, k2, k3, k4⟩ := h D dA ad sz p e h1 h2 h3 s m args below h4 h5 h6 h7
  rcases k4 with ⟨q1, L, q2, q3⟩ | ⟨q, q1, E, ce, L, ⟨⟨w', q2, -⟩, -⟩, -⟩
  · exact ⟨n, o, k1, k2, k3, q1, L, q2, q3⟩
  · exact absurd q2 (hn E w')
end HH
