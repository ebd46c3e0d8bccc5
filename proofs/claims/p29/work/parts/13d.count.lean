/-! COUNTS -/
section CN1
def cB (q : Nat → Bool) : Nat → Nat
  | 0 => 0
  | k + 1 => cB q k + (if q k then 1 else 0)
theorem cB_le (q : Nat → Bool) : ∀ k, cB q k ≤ k
  | 0 => Nat.le_refl _
  | k + 1 => by
    have := cB_le q k
    rw [cB]; split <;> omega
theorem cB_zero {q : Nat → Bool} : ∀ {k : Nat}, (∀ t, t < k → q t = false) → cB q k = 0
  | 0, _ => rfl
  | k + 1, h => by rw [cB, h k (by omega), cB_zero (fun t ht => h t (by omega))]; rfl
/-- sums of rows -/
def sN (f : Nat → Nat) : Nat → Nat
  | 0 => 0
  | k + 1 => sN f k + f k
theorem sN_congr {f g : Nat → Nat} : ∀ {k : Nat}, (∀ t, t < k → f t = g t) → sN f k = sN g k
  | 0, _ => rfl
  | k + 1, h => by rw [sN, sN, h k (by omega), sN_congr (fun t ht => h t (by omega))]
theorem sN_add (f g : Nat → Nat) : ∀ k, sN (fun t => f t + g t) k = sN f k + sN g k
  | 0 => rfl
  | k + 1 => by rw [sN, sN, sN, sN_add f g k]; omega
theorem sN_le {f : Nat → Nat} {c : Nat} (h : ∀ t, f t ≤ c) : ∀ k, sN f k ≤ k * c
  | 0 => by simp [sN]
  | k + 1 => by
    have := sN_le h k
    have := h k
    rw [sN, Nat.succ_mul]; omega
theorem sN_b (q : Nat → Bool) : ∀ k, sN (fun t => if q t then 1 else 0) k = cB q k
  | 0 => rfl
  | k + 1 => by rw [sN, cB, sN_b q k]
/-- pairs, counted from the lower one or from the higher one -/
theorem tri (p : Nat → Nat → Bool) (hs : ∀ a b, p a b = p b a) : ∀ n, sN (fun i => cB (fun b => decide (i < b) && p i b) n) n = sN (fun a => cB (p a) a) n
  | 0 => rfl
  | n + 1 => by
    rw [sN, sN, ← tri p hs n]
    have h1 : ∀ i, i < n → cB (fun b => decide (i < b) && p i b) (n + 1) = cB (fun b => decide (i < b) && p i b) n + (if p n i then 1 else 0) := by
      intro i hi
      rw [cB, hs n i]
      simp [hi]
    rw [sN_congr h1, sN_add, sN_b]
    rw [cB_zero (q := fun b => decide (n < b) && p n b) (k := n + 1) (fun t ht => by
      have : ¬ n < t := by omega
      simp [this])]
    have : cB (fun t => p n t) n = cB (p n) n := rfl
    omega
theorem zb_dec {p : Prop} [Decidable p] : zb (decide p) = 0 ↔ ¬ p := by rw [zb_eq0, decide_eq_false_iff_not]
theorem zb_ne0 {b : Bool} : ¬ zb b = 0 ↔ b = true := by cases b <;> simp [zb]
end CN1
