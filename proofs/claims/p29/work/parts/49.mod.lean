/-! DRAWN ROWS -/
section DW
def jN (n : Nat) : Int64 := Int64.ofInt (n : Int)
theorem jN_mul (a b : Nat) : jN a * jN b = jN (a * b) := by
  unfold jN
  rw [← Int64.ofInt_mul, Int.natCast_mul]
theorem jN_add (a b : Nat) : jN a + jN b = jN (a + b) := by
  unfold jN
  rw [← Int64.ofInt_add, Int.natCast_add]
theorem jN_sub {a b : Nat} (h : b ≤ a) : jN a - jN b = jN (a - b) := by
  unfold jN
  rw [← Int64.ofInt_sub]
  congr 1
  omega
theorem jN_div {a b : Nat} (ha : a < 2 ^ 63) (hb : b < 2 ^ 63) : jN a / jN b = jN (a / b) := by
  unfold jN
  have e1 : Int64.minValue.toInt = -2 ^ 63 := by decide
  have e2 : Int64.maxValue.toInt = 2 ^ 63 - 1 := by decide
  rw [← Int64.ofInt_tdiv (by rw [e1]; omega) (by rw [e2]; omega) (by rw [e1]; omega) (by rw [e2]; omega)]
  congr 1
theorem jN_rem {a b : Nat} (ha : a < 2 ^ 63) (hb : b < 2 ^ 63) : jN a - jN a / jN b * jN b = jN (a % b) := by
  rw [jN_div ha hb, jN_mul, jN_sub (Nat.div_mul_le_self a b)]
  congr 1
  have := Nat.div_add_mod a b
  rw [Nat.mul_comm] at this
  omega
theorem jN_i {n : Nat} (h : n < 2 ^ 31) : (nI n).toInt64 = jN n := by
  rw [iI_n]
  have e1 : Int32.minValue.toInt = -2 ^ 31 := by decide
  have e2 : Int32.maxValue.toInt = 2 ^ 31 - 1 := by decide
  exact Int32.toInt64_ofInt (by rw [e1]; omega) (by rw [e2]; omega)
theorem jN_inj {a b : Nat} (ha : a < 2 ^ 63) (hb : b < 2 ^ 63) : jN a = jN b ↔ a = b := by
  constructor
  · intro h
    have h := congrArg Int64.toInt h
    unfold jN at h
    rw [Int64.toInt_ofInt_of_le (by omega) (by omega), Int64.toInt_ofInt_of_le (by omega) (by omega)] at h
    omega
  · intro h; rw [h]
theorem jN_ne {a : Nat} (h : 0 < a) (h2 : a < 2 ^ 63) : ¬ jN a = 0 := by
  rw [show (0 : Int64) = jN 0 from rfl, jN_inj h2 (by decide)]
  omega
def dnN (x : Nat) : Nat := (x * 1103515245 + 12345) % 2147483648
theorem dnN_lt (x : Nat) : dnN x < 2 ^ 31 := Nat.mod_lt _ (by decide)
theorem dnN_j {x : Nat} (h : x < 2 ^ 31) : (jN x * 1103515245 + 12345) - (jN x * 1103515245 + 12345) / 2147483648 * 2147483648 = jN (dnN x) := by
  rw [show (1103515245 : Int64) = jN 1103515245 from rfl, show (12345 : Int64) = jN 12345 from rfl, show (2147483648 : Int64) = jN 2147483648 from rfl, jN_mul, jN_add, jN_rem (by omega) (by decide)]
  rfl
/-- the task that q takes behind i others that it takes -/
def pickN (q : Nat → Bool) (i : Nat) : Nat → Nat
  | 0 => 0
  | k + 1 => if q k = true ∧ cB q k = i then k else pickN q i k
theorem cB_step {q : Nat → Bool} {k : Nat} : cB q (k + 1) = cB q k + (if q k then 1 else 0) := by
  rw [cB]
theorem cB_up {q : Nat → Bool} {t : Nat} : ∀ {k : Nat}, t ≤ k → cB q t ≤ cB q k
  | 0, h => by
    have : t = 0 := by omega
    subst this; exact Nat.le_refl _
  | k + 1, h => by
    by_cases e : t = k + 1
    · subst e; exact Nat.le_refl _
    · have := cB_up (q := q) (t := t) (k := k) (by omega)
      rw [cB_step]; omega
theorem cB_lt {q : Nat → Bool} {t k : Nat} (h : t < k) (hq : q t = true) : cB q t + 1 ≤ cB q k := by
  have := cB_up (q := q) (t := t + 1) (k := k) h
  rw [cB_step, if_pos hq] at this
  exact this
theorem pick_at {q : Nat → Bool} {i t : Nat} (hq : q t = true) (hi : cB q t = i) : ∀ {k : Nat}, t < k → pickN q i k = t
  | 0, h => absurd h (Nat.not_lt_zero _)
  | k + 1, h => by
    rw [pickN]
    by_cases e : t = k
    · subst e; rw [if_pos ⟨hq, hi⟩]
    · have h1 := cB_lt (q := q) (t := t) (k := k) (by omega) hq
      rw [if_neg (by rintro ⟨-, h2⟩; omega)]
      exact pick_at hq hi (by omega)
theorem pick_ok {q : Nat → Bool} {i : Nat} : ∀ {k : Nat}, i < cB q k → pickN q i k < k ∧ q (pickN q i k) = true ∧ cB q (pickN q i k) = i
  | 0, h => by rw [cB] at h; exact absurd h (Nat.not_lt_zero _)
  | k + 1, h => by
    rw [pickN]
    by_cases e : q k = true ∧ cB q k = i
    · rw [if_pos e]; exact ⟨by omega, e.1, e.2⟩
    · rw [if_neg e]
      have : i < cB q k := by
        rw [cB_step] at h
        by_cases e1 : q k = true
        · rw [if_pos e1] at h
          have : cB q k ≠ i := fun e2 => e ⟨e1, e2⟩
          omega
        · rw [if_neg e1] at h; omega
      obtain ⟨a, b, c⟩ := pick_ok this
      exact ⟨by omega, b, c⟩
def dw (S : TS) (x : Nat) : Nat → Nat × (Nat → Nat)
  | 0 => (x, fun _ => 0)
  | k + 1 => (dnN (dw S x k).1, va_up (dw S x k).2 k (pickN (csB S (rs (dw S x k).2 k)) (dnN (dw S x k).1 / 65536 % cB (csB S (rs (dw S x k).2 k)) (tn S)) (tn S)))
def dMs (S : TS) (s : Nat) : Nat → Nat × Int
  | 0 => (s, -1)
  | k + 1 => ((dw S (dMs S s k).1 (tn S)).1, if planR S (dw S (dMs S s k).1 (tn S)).2 ≠ -1 ∧ ((dMs S s k).2 = -1 ∨ planR S (dw S (dMs S s k).1 (tn S)).2 < (dMs S s k).2) then planR S (dw S (dMs S s k).1 (tn S)).2 else (dMs S s k).2)
theorem pop_or {a i : Nat} : ∀ k, pop (a ||| 2 ^ i) k ≤ pop a k + (if i < k then 1 else 0)
  | 0 => by simp [pop]
  | k + 1 => by
    have ih := pop_or (a := a) (i := i) k
    rw [pop, pop, Nat.testBit_or, Nat.testBit_two_pow]
    by_cases e : i = k
    · subst e
      rw [if_neg (Nat.lt_irrefl _)] at ih
      rw [if_pos (Nat.lt_succ_self _)]
      simp only [decide_true, Bool.or_true, if_true]
      omega
    · rw [decide_eq_false e, Bool.or_false]
      by_cases e2 : i < k
      · rw [if_pos e2] at ih; rw [if_pos (show i < k + 1 by omega)]; omega
      · rw [if_neg e2] at ih; rw [if_neg (show ¬ i < k + 1 by omega)]; omega
theorem rs_pop {ρ : Nat → Nat} {n : Nat} : ∀ k, pop (rs ρ k) n ≤ k
  | 0 => by
    have : ∀ n, pop 0 n = 0 := by
      intro n
      induction n with
      | zero => rfl
      | succ n ih => rw [pop, ih, Nat.zero_testBit]; rfl
    rw [rs, this]
    exact Nat.le_refl _
  | k + 1 => by
    have h1 := rs_pop (ρ := ρ) (n := n) k
    have h2 := pop_or (a := rs ρ k) (i := ρ k) n
    rw [rs]
    split at h2 <;> omega
theorem pop_all {a : Nat} : ∀ n, (∀ t, t < n → a.testBit t = true) → pop a n = n
  | 0, _ => rfl
  | n + 1, h => by rw [pop, pop_all n (fun t ht => h t (by omega)), if_pos (h n (by omega))]
theorem tA_bit {S : TS} {t i : Nat} : (tA S t).testBit i = true ↔ i < tn S ∧ (tG S i).testBit t = true := by
  rw [tA, maskF_bit, Bool.and_eq_true, decide_eq_true_iff]
/-- there is always a task that can be next -/
theorem ready_pos {S : TS} {mc : Nat} (h : Fine S mc) {ρ : Nat → Nat} {k : Nat} (hk : k < tn S) : 1 ≤ cB (csB S (rs ρ k)) (tn S) := by
  obtain ⟨hok, q, hq⟩ := h
  have h1 : ∃ t, t < tn S ∧ (rs ρ k).testBit t = false := by
    apply Classical.byContradiction
    intro hc
    have h2 := rs_pop (ρ := ρ) (n := tn S) k
    rw [pop_all (tn S) (fun t ht => by
      cases e : (rs ρ k).testBit t
      · exact absurd ⟨t, ht, e⟩ hc
      · rfl)] at h2
    omega
  have h3 : ∀ m, (∃ t, t < tn S ∧ (rs ρ k).testBit t = false ∧ q t ≤ m) → ∃ t, t < tn S ∧ csB S (rs ρ k) t = true := by
    intro m
    induction m with
    | zero =>
      rintro ⟨t, ht, hb, hm⟩
      refine ⟨t, ht, ?_⟩
      rw [csB, hb, decide_eq_true (nd_zero.mpr (fun i hi => ?_))]
      · rfl
      · obtain ⟨g1, g2⟩ := tA_bit.mp hi
        have := hq i t g1 ht g2
        omega
    | succ m ih =>
      rintro ⟨t, ht, hb, hm⟩
      by_cases e : nd (tA S t) (rs ρ k) = 0
      · exact ⟨t, ht, by rw [csB, hb, decide_eq_true e]; rfl⟩
      · have : ∃ i, (tA S t).testBit i = true ∧ (rs ρ k).testBit i = false := by
          apply Classical.byContradiction
          intro hc
          refine e (nd_zero.mpr (fun i hi => ?_))
          cases e2 : (rs ρ k).testBit i
          · exact absurd ⟨i, hi, e2⟩ hc
          · rfl
        obtain ⟨i, hi, hb2⟩ := this
        obtain ⟨g1, g2⟩ := tA_bit.mp hi
        have := hq i t g1 ht g2
        exact ih ⟨i, g1, hb2, by omega⟩
  obtain ⟨t, ht, hb⟩ := h1
  obtain ⟨u, hu, hc⟩ := h3 (q t) ⟨t, ht, hb, Nat.le_refl _⟩
  have := cB_lt hu hc
  omega
theorem dw_lt {S : TS} {x : Nat} (hx : x < 2 ^ 31) : ∀ k, (dw S x k).1 < 2 ^ 31
  | 0 => hx
  | k + 1 => dnN_lt _
theorem dw_pick {S : TS} {mc x : Nat} (h : Fine S mc) {k : Nat} (hk : k < tn S) : dnN (dw S x k).1 / 65536 % cB (csB S (rs (dw S x k).2 k)) (tn S) < cB (csB S (rs (dw S x k).2 k)) (tn S) := Nat.mod_lt _ (ready_pos h hk)
theorem dw_cons {S : TS} {mc x : Nat} (h : Fine S mc) : ∀ k, k ≤ tn S → ConsK S (dw S x k).2 k
  | 0, _ => fun j hj => absurd hj (Nat.not_lt_zero _)
  | k + 1, hk => by
    have ih := dw_cons (x := x) h k (by omega)
    obtain ⟨p1, p2, -⟩ := pick_ok (dw_pick (x := x) h (k := k) (by omega))
    intro j hj
    have e1 : rs (dw S x (k + 1)).2 j = rs (dw S x k).2 j := rs_congr (fun i hi => by rw [dw]; exact vu_ne (by omega))
    rw [e1]
    by_cases e : j = k
    · subst e
      rw [show (dw S x (j + 1)).2 j = pickN (csB S (rs (dw S x j).2 j)) (dnN (dw S x j).1 / 65536 % cB (csB S (rs (dw S x j).2 j)) (tn S)) (tn S) from by rw [dw]; exact vu_at]
      exact ⟨p1, p2⟩
    · rw [show (dw S x (k + 1)).2 j = (dw S x k).2 j from by rw [dw]; exact vu_ne e]
      exact ih j (by omega)
theorem dMs_lt {S : TS} {s : Nat} (hs : s < 2 ^ 31) : ∀ k, (dMs S s k).1 < 2 ^ 31
  | 0 => hs
  | k + 1 => by rw [dMs]; exact dw_lt (dMs_lt hs k) _
theorem planR_b {S : TS} {mcN : Nat} (hok : TSok S mcN) {ρ : Nat → Nat} (hr : ∀ j, j < tn S → ρ j < tn S) : -1 ≤ planR S ρ ∧ planR S ρ ≤ 400 := by
  unfold planR
  split
  · next hb => have := planR_le hok hb hr; omega
  · omega
theorem dMs_b {S : TS} {mc s : Nat} (h : Fine S mc) : ∀ k, -1 ≤ (dMs S s k).2 ∧ (dMs S s k).2 ≤ 400
  | 0 => by rw [dMs]; exact ⟨by show (-1 : Int) ≤ -1; omega, by show (-1 : Int) ≤ 400; omega⟩
  | k + 1 => by
    have ih := dMs_b (s := s) h k
    rw [dMs]
    dsimp only
    split
    · exact planR_b h.1 (fun j hj => (dw_cons h _ (Nat.le_refl _) j hj).1)
    · exact ih
variable {l : Launch} {th mc n sv ty ch ixa wr om : Int32} {db : Int64} {fm fr fd fp fg fs ftx fF fL fA sF sL sW fO rw br st bs du fo : Nat → Int32}
end DW
