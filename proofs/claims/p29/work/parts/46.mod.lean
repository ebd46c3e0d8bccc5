/-! THE REFERENCE: what if -/
section MO26
variable {l : Launch} {th mc n sv ty ch ixa wr om : Int32} {db : Int64} {fm fr fd fp fg fs ftx fF fL fA sF sL sW fO rw br st bs du fo : Nat → Int32}
/-- the least number from lo to 400 that p takes, or -1 -/
def LeastR (p : Nat → Prop) (lo : Nat) (v : Int32) : Prop := (v = -1 ∧ ∀ d, lo ≤ d → d ≤ 400 → ¬ p d) ∨ ∃ d, lo ≤ d ∧ d ≤ 400 ∧ v = nI d ∧ p d ∧ ∀ e, lo ≤ e → e < d → ¬ p e
theorem LeastR.uniq {p : Nat → Prop} {lo : Nat} {v v' : Int32} (h : LeastR p lo v) (h' : LeastR p lo v') : v = v' := by
  rcases h with ⟨rfl, h2⟩ | ⟨d, h1, h2, rfl, h4, h5⟩ <;> rcases h' with ⟨rfl, k2⟩ | ⟨e, k1, k2, rfl, k4, k5⟩
  · rfl
  · exact absurd k4 (h2 e k1 k2)
  · exact absurd h4 (k2 d h1 h2)
  · rcases Nat.lt_trichotomy d e with q | q | q
    · exact absurd h4 (k5 d h1 q)
    · rw [q]
    · exact absurd k4 (h5 e k1 q)
/-- the part of the pairs that is decided -/
def decV (p o : Nat) : UInt64 := if p = 0 then FP.dconst1 else FP.ddiv (FP.i2d (nI p - nI o)) (FP.i2d (nI p))
theorem cB_mono {q q' : Nat → Bool} : ∀ {k : Nat}, (∀ t, t < k → q t = true → q' t = true) → cB q k ≤ cB q' k
  | 0, _ => Nat.le_refl _
  | k + 1, h => by
    have ih := cB_mono (k := k) (fun t ht => h t (by omega))
    have hk := h k (by omega)
    rw [cB, cB]
    by_cases e : q k = true
    · rw [if_pos e, if_pos (hk e)]; omega
    · rw [if_neg e]; omega
theorem nOpen_le (S : TS) (B : Nat → Nat) : nOpen S B ≤ nPairs S := sN_mono (fun a _ => cB_mono (fun b _ h => by
  unfold opn at h
  rw [Bool.and_eq_true] at h
  exact h.1))
theorem nPairs_le {S : TS} (hn : tn S ≤ 8) : nPairs S ≤ 28 := by
  have h1 : nPairs S ≤ sN (fun a => a) (tn S) := sN_mono (fun a _ => cB_le _ a)
  have h2 : ∀ n : Fin 9, sN (fun a => a) n.1 ≤ 28 := by decide
  have h3 : sN (fun a => a) (tn S) ≤ 28 := h2 ⟨tn S, by omega⟩
  omega
theorem dec_n64 {p q : Nat} (h1 : 1 ≤ p) (hp : p ≤ 28) (hq : q ≤ p) : vf_n64 (FP.ddiv (FP.i2d (nI q)) (FP.i2d (nI p))) := by
  have : ∀ p : Fin 29, ∀ q : Fin 29, 1 ≤ p.1 → q.1 ≤ p.1 → vf_n64 (FP.ddiv (FP.i2d (nI q.1)) (FP.i2d (nI p.1))) := by
    unfold vf_n64
    decide +kernel
  exact this ⟨p, by omega⟩ ⟨q, by omega⟩ h1 hq
end MO26
