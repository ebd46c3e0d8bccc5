/-! ROWS AND THE BEST OF THEIR PLANS -/
section BT
theorem rs_congr {ρ ρ' : Nat → Nat} : ∀ {k : Nat}, (∀ j, j < k → ρ j = ρ' j) → rs ρ k = rs ρ' k
  | 0, _ => rfl
  | k + 1, h => by rw [rs, rs, rs_congr (fun j hj => h j (by omega)), h k (by omega)]
theorem stE_congr {S : TS} {σ ρ ρ' : Nat → Nat} {t : Nat} : ∀ {k : Nat}, (∀ j, j < k → ρ j = ρ' j) → stE S σ ρ t k = stE S σ ρ' t k
  | 0, _ => rfl
  | k + 1, h => by rw [stE, stE, stE_congr (fun j hj => h j (by omega)), h k (by omega)]
theorem stA_congr {S : TS} {ρ ρ' : Nat → Nat} : ∀ {k : Nat}, (∀ j, j < k → ρ j = ρ' j) → stA S ρ k = stA S ρ' k
  | 0, _ => rfl
  | k + 1, h => by rw [stA, stA, stA_congr (fun j hj => h j (by omega)), h k (by omega), stE_congr (fun j hj => h j (by omega))]
theorem plB_congr {S : TS} {ρ ρ' : Nat → Nat} : ∀ {k : Nat}, (∀ j, j < k → ρ j = ρ' j) → plB S ρ k = plB S ρ' k
  | 0, _ => rfl
  | k + 1, h => by rw [plB, plB, plB_congr (fun j hj => h j (by omega)), stA_congr (k := k) (fun j hj => h j (by omega)), h k (by omega), stE_congr (k := k) (fun j hj => h j (by omega))]
theorem msA_congr {S : TS} {ρ ρ' : Nat → Nat} : ∀ {k : Nat}, (∀ j, j < k → ρ j = ρ' j) → msA S ρ k = msA S ρ' k
  | 0, _ => rfl
  | k + 1, h => by rw [msA, msA, msA_congr (fun j hj => h j (by omega)), stA_congr (k := k) (fun j hj => h j (by omega)), h k (by omega), stE_congr (k := k) (fun j hj => h j (by omega))]
/-- the first k tasks of a row stand so that each comes behind those that are given to precede it -/
def ConsK (S : TS) (ρ : Nat → Nat) (k : Nat) : Prop := ∀ j, j < k → ρ j < tn S ∧ csB S (rs ρ j) (ρ j) = true
def Cons (S : TS) (ρ : Nat → Nat) : Prop := ConsK S ρ (tn S)
theorem ConsK_pop {S : TS} {ρ : Nat → Nat} : ∀ {k : Nat}, ConsK S ρ k → k ≤ pop (rs ρ k) (tn S)
  | 0, _ => Nat.zero_le _
  | k + 1, h => by
    have ih := ConsK_pop (k := k) (fun j hj => h j (by omega))
    obtain ⟨h1, h2⟩ := h k (by omega)
    rw [csB, Bool.and_eq_true] at h2
    have hb : (rs ρ k).testBit (ρ k) = false := by simpa using h2.1
    have := pop_lt (a := rs ρ k) (b := rs ρ (k + 1)) (Sub_or_l _ _) (t := ρ k) (by rw [rs, Nat.testBit_or, Nat.testBit_two_pow]; simp) hb (tn S) h1
    omega
theorem Cons_all {S : TS} {ρ : Nat → Nat} (h : Cons S ρ) {t : Nat} (ht : t < tn S) : ∃ j, j < tn S ∧ ρ j = t := by
  have h1 := ConsK_pop h
  have h2 := pop_le (rs ρ (tn S)) (tn S)
  exact (rs_bit _).mp (pop_full (by omega) t ht)
theorem ConsK_inj {S : TS} {ρ : Nat → Nat} {k i j : Nat} (h : ConsK S ρ k) (hij : i < j) (hj : j < k) : ρ i ≠ ρ j := by
  intro e
  have h2 := (h j hj).2
  rw [csB, Bool.and_eq_true] at h2
  have hb : (rs ρ j).testBit (ρ j) = false := by simpa using h2.1
  rw [(rs_bit j).mpr ⟨i, hij, e⟩] at hb
  cases hb
theorem ConsK_inj' {S : TS} {ρ : Nat → Nat} {k i j : Nat} (h : ConsK S ρ k) (hi : i < k) (hj : j < k) (e : ρ i = ρ j) : i = j := by
  rcases Nat.lt_trichotomy i j with q | q | q
  · exact absurd e (ConsK_inj h q hj)
  · exact q
  · exact absurd e.symm (ConsK_inj h q hi)
/-! the order of rows -/
def LexLt (n : Nat) (ρ σ : Nat → Nat) : Prop := ∃ j, j < n ∧ (∀ i, i < j → ρ i = σ i) ∧ ρ j < σ j
theorem LexLt.asymm {n : Nat} {ρ σ : Nat → Nat} (h : LexLt n ρ σ) (h' : LexLt n σ ρ) : False := by
  obtain ⟨j, h1, h2, h3⟩ := h
  obtain ⟨k, k1, k2, k3⟩ := h'
  rcases Nat.lt_trichotomy j k with q | q | q
  · have := k2 j q; omega
  · subst q; omega
  · have := h2 k q; omega
theorem lex_eq {n : Nat} {ρ σ : Nat → Nat} (h : ¬ LexLt n ρ σ) (h' : ¬ LexLt n σ ρ) : ∀ i, i < n → ρ i = σ i := by
  have : ∀ m, m ≤ n → ∀ i, i < m → ρ i = σ i := by
    intro m
    induction m with
    | zero => intro _ i hi; exact absurd hi (Nat.not_lt_zero _)
    | succ m ih =>
      intro hm i hi
      have ih := ih (by omega)
      by_cases e : i < m
      · exact ih i e
      · have e : i = m := by omega
        subst e
        rcases Nat.lt_trichotomy (ρ i) (σ i) with q | q | q
        · exact absurd ⟨i, by omega, ih, q⟩ h
        · exact q
        · exact absurd ⟨i, by omega, fun u hu => (ih u hu).symm, q⟩ h'
  exact this n (Nat.le_refl _)
/-- rows before a frontier: at place k, before c -/
def Bf (ρ : Nat → Nat) (k c : Nat) (σ : Nat → Nat) : Prop := (∃ j, j < k ∧ (∀ i, i < j → σ i = ρ i) ∧ σ j < ρ j) ∨ ((∀ i, i < k → σ i = ρ i) ∧ σ k < c)
theorem Bf_lt {ρ σ τ : Nat → Nat} {k c n : Nat} (h : Bf ρ k c σ) (hk : k < n) (hτ : ∀ i, i < k → τ i = ρ i) (hc : c ≤ τ k) : LexLt n σ τ := by
  rcases h with ⟨j, h1, h2, h3⟩ | ⟨h1, h2⟩
  · exact ⟨j, by omega, fun i hi => by rw [h2 i hi, hτ i (by omega)], by rw [hτ j h1]; exact h3⟩
  · exact ⟨k, hk, fun i hi => by rw [h1 i hi, hτ i hi], by omega⟩
theorem Bf_down {ρ σ : Nat → Nat} {k : Nat} : Bf ρ (k + 1) 0 σ ↔ Bf ρ k (ρ k) σ := by
  constructor
  · rintro (⟨j, h1, h2, h3⟩ | ⟨_, h2⟩)
    · by_cases e : j = k
      · subst e; exact Or.inr ⟨h2, h3⟩
      · exact Or.inl ⟨j, by omega, h2, h3⟩
    · exact absurd h2 (Nat.not_lt_zero _)
  · rintro (⟨j, h1, h2, h3⟩ | ⟨h1, h2⟩)
    · exact Or.inl ⟨j, by omega, h2, h3⟩
    · exact Or.inl ⟨k, by omega, h1, h2⟩
theorem Bf_succ {ρ σ : Nat → Nat} {k c : Nat} : Bf ρ k (c + 1) σ ↔ Bf ρ k c σ ∨ ((∀ i, i < k → σ i = ρ i) ∧ σ k = c) := by
  constructor
  · rintro (h | ⟨h1, h2⟩)
    · exact Or.inl (Or.inl h)
    · by_cases e : σ k = c
      · exact Or.inr ⟨h1, e⟩
      · exact Or.inl (Or.inr ⟨h1, by omega⟩)
  · rintro ((h | ⟨h1, h2⟩) | ⟨h1, h2⟩)
    · exact Or.inl h
    · exact Or.inr ⟨h1, by omega⟩
    · exact Or.inr ⟨h1, by omega⟩
theorem Bf_none {ρ σ : Nat → Nat} : ¬ Bf ρ 0 0 σ := by
  rintro (⟨j, h, -⟩ | ⟨_, h⟩) <;> omega
/-- of the rows that p takes: v is the least makespan of a possible plan (or -1: none is possible), β the first such row -/
def BestOf (S : TS) (p : (Nat → Nat) → Prop) (v : Int) (β : Nat → Nat) : Prop :=
  (v = -1 ∧ ∀ ρ, Cons S ρ → p ρ → ¬ plB S ρ (tn S) = true) ∨
  (v = (msA S β (tn S) : Nat) ∧ Cons S β ∧ p β ∧ plB S β (tn S) = true ∧ ∀ ρ, Cons S ρ → p ρ → plB S ρ (tn S) = true → msA S β (tn S) ≤ msA S ρ (tn S) ∧ (msA S ρ (tn S) = msA S β (tn S) → ¬ LexLt (tn S) ρ β))
theorem BestOf_none {S : TS} {p : (Nat → Nat) → Prop} {β : Nat → Nat} (h : ∀ ρ, ¬ p ρ) : BestOf S p (-1) β := Or.inl ⟨rfl, fun ρ _ hp => absurd hp (h ρ)⟩
/-- more rows, none of which makes a better plan -/
theorem BestOf.more {S : TS} {p p' : (Nat → Nat) → Prop} {v : Int} {β : Nat → Nat} (h : BestOf S p v β) (h1 : ∀ ρ, Cons S ρ → p ρ → p' ρ) (h2 : ∀ ρ, Cons S ρ → p' ρ → ¬ p ρ → plB S ρ (tn S) = true → v ≠ -1 ∧ v ≤ (msA S ρ (tn S) : Nat) ∧ (p β → ¬ LexLt (tn S) ρ β)) : BestOf S p' v β := by
  rcases h with ⟨rfl, h3⟩ | ⟨rfl, h3, h4, h5, h6⟩
  · refine Or.inl ⟨rfl, fun ρ hc hp hb => ?_⟩
    by_cases e : p ρ
    · exact h3 ρ hc e hb
    · exact (h2 ρ hc hp e hb).1 rfl
  · refine Or.inr ⟨rfl, h3, h1 β h3 h4, h5, fun ρ hc hp hb => ?_⟩
    by_cases e : p ρ
    · exact h6 ρ hc e hb
    · obtain ⟨-, k2, k3⟩ := h2 ρ hc hp e hb
      exact ⟨by omega, fun _ => k3 h4⟩
theorem BestOf.same {S : TS} {p p' : (Nat → Nat) → Prop} {v : Int} {β : Nat → Nat} (h : BestOf S p v β) (h1 : ∀ ρ, Cons S ρ → (p ρ ↔ p' ρ)) : BestOf S p' v β := h.more (fun ρ hc hp => (h1 ρ hc).mp hp) (fun ρ hc hp hn => absurd ((h1 ρ hc).mpr hp) hn)
/-- one more row, with a better plan -/
theorem BestOf.new {S : TS} {p p' : (Nat → Nat) → Prop} {v : Int} {β σ : Nat → Nat} (h : BestOf S p v β) (hσ : Cons S σ) (hp : p' σ) (hb : plB S σ (tn S) = true) (hv : v = -1 ∨ ((msA S σ (tn S) : Nat) : Int) < v) (h2 : ∀ ρ, Cons S ρ → p' ρ → p ρ ∨ ∀ i, i < tn S → ρ i = σ i) : BestOf S p' (msA S σ (tn S) : Nat) σ := by
  refine Or.inr ⟨rfl, hσ, hp, hb, fun ρ hc hpρ hbρ => ?_⟩
  rcases h2 ρ hc hpρ with q | q
  · rcases h with ⟨rfl, h3⟩ | ⟨rfl, h3, h4, h5, h6⟩
    · exact absurd hbρ (h3 ρ hc q)
    · have := (h6 ρ hc q hbρ).1
      rcases hv with hv | hv
      · omega
      · exact ⟨by omega, fun e => by omega⟩
  · rw [msA_congr q]
    refine ⟨Nat.le_refl _, fun _ => ?_⟩
    rintro ⟨j, j1, -, j3⟩
    rw [q j j1] at j3
    omega
theorem BestOf.uniq {S : TS} {v v' : Int} {β β' : Nat → Nat} (h : BestOf S (fun _ => True) v β) (h' : BestOf S (fun _ => True) v' β') : v = v' ∧ (v ≠ -1 → ∀ i, i < tn S → β i = β' i) := by
  rcases h with ⟨rfl, h3⟩ | ⟨rfl, h3, -, h5, h6⟩ <;> rcases h' with ⟨rfl, k3⟩ | ⟨rfl, k3, -, k5, k6⟩
  · exact ⟨rfl, fun h => absurd rfl h⟩
  · exact absurd k5 (h3 _ k3 trivial)
  · exact absurd h5 (k3 _ h3 trivial)
  · obtain ⟨a1, a2⟩ := h6 _ k3 trivial k5
    obtain ⟨b1, b2⟩ := k6 _ h3 trivial h5
    have e : msA S β (tn S) = msA S β' (tn S) := by omega
    exact ⟨by rw [e], fun _ => lex_eq (b2 e) (a2 e.symm)⟩
end BT
