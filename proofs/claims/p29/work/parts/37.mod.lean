/-! THE REFERENCE: the plan of a row -/
section MO17
variable {l : Launch} {th mc n sv ty ch ixa wr om : Int32} {db : Int64} {fm fr fd fp fg fs ftx fF fL fA sF sL sW fO rw br st bs du fo : Nat → Int32}
/-- the start of t behind the first j of a row that starts at σ -/
def stE (S : TS) (σ ρ : Nat → Nat) (t : Nat) : Nat → Nat
  | 0 => tR S t
  | j + 1 => if tM S (ρ j) = tM S t ∨ (tG S (ρ j)).testBit t = true then max (stE S σ ρ t j) (σ (ρ j) + tP S (ρ j)) else stE S σ ρ t j
/-- the starts of the first k of a row -/
def stA (S : TS) (ρ : Nat → Nat) : Nat → Nat → Nat
  | 0 => fun _ => 0
  | k + 1 => va_up (stA S ρ k) (ρ k) (stE S (stA S ρ k) ρ (ρ k) k)
def plB (S : TS) (ρ : Nat → Nat) : Nat → Bool
  | 0 => true
  | k + 1 => plB S ρ k && decide (stE S (stA S ρ k) ρ (ρ k) k + tP S (ρ k) ≤ tD S (ρ k))
def msA (S : TS) (ρ : Nat → Nat) : Nat → Nat
  | 0 => 0
  | k + 1 => max (msA S ρ k) (stE S (stA S ρ k) ρ (ρ k) k + tP S (ρ k))
def planR (S : TS) (ρ : Nat → Nat) : Int := if plB S ρ (tn S) then (msA S ρ (tn S) : Nat) else -1
theorem stE_le {S : TS} {σ ρ : Nat → Nat} {t c : Nat} (h0 : tR S t ≤ c) : ∀ j, (∀ i, i < j → σ (ρ i) + tP S (ρ i) ≤ c) → stE S σ ρ t j ≤ c
  | 0, _ => h0
  | j + 1, h => by
    have ih := stE_le (σ := σ) (ρ := ρ) h0 j (fun i hi => h i (by omega))
    have := h j (by omega)
    rw [stE]; split <;> omega
theorem stA_le {S : TS} {mcN : Nat} (hok : TSok S mcN) {ρ : Nat → Nat} : ∀ k, (∀ j, j < k → ρ j < tn S) → ∀ t, stA S ρ k t ≤ 200 + 50 * k
  | 0, _, t => by simp [stA]
  | k + 1, h, t => by
    have ih := stA_le hok k (fun j hj => h j (by omega))
    have hk := hok.2.2.2 _ (h k (by omega))
    rw [stA]
    by_cases e : t = ρ k
    · subst e
      rw [vu_at]
      refine stE_le (by omega) k (fun i hi => ?_)
      have := ih (ρ i)
      have := hok.2.2.2 _ (h i (by omega))
      omega
    · rw [vu_ne e]
      have := ih t
      omega
end MO17
