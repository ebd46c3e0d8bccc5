/-! p29, THE MATHEMATICS: plans by starts and by rows; what is told holds in them; dominance -/
section PM1
/-- a possible plan is a closed state, in which a precedence means an end ahead of a start -/
theorem plan_closed2 {S : TS} {s q : Nat → Nat} (h : IsPlan S s q) : ∃ B, Cl S (fun t => (s t : Int)) (fun t => (s t + tP S t : Nat)) B ∧ ¬ Bad S (fun t => (s t : Int)) (fun t => (s t + tP S t : Nat)) B ∧ ∀ a b, a < tn S → b < tn S → bt B a b → s a + tP S a ≤ s b := by
  have h' := h
  obtain ⟨h1, h2, h3, h4⟩ := h'
  have hB : ∀ a b, bt (fun a => maskF (fun b => decide (q a < q b ∧ s a + tP S a ≤ s b)) (tn S)) a b ↔ b < tn S ∧ q a < q b ∧ s a + tP S a ≤ s b := by
    intro a b
    unfold bt
    rw [maskF_bit]
    simp
  refine ⟨fun a => maskF (fun b => decide (q a < q b ∧ s a + tP S a ≤ s b)) (tn S), ⟨?_, ?_, ?_, ?_, ?_, ?_, ?_⟩, ?_, ?_⟩
  · intro t ht
    have := h1 t ht
    refine ⟨by (try dsimp only at *); omega, by (try dsimp only at *); omega, fun b hb hg => (hB t b).mpr ⟨hb, h2 t b ht hb hg⟩⟩
  · intro a b c ha hb hc hab hbc
    have e1 := (hB a b).mp hab
    have e2 := (hB b c).mp hbc
    exact (hB a c).mpr ⟨hc, by (try dsimp only at *); omega, by (try dsimp only at *); omega⟩
  · intro a b ha hb hne hM hc
    refine (hB b a).mpr ⟨ha, ?_⟩
    have hq : ¬ q a < q b := fun hq => by
      have := h3 a b ha hb hM hq
      (try dsimp only at *); omega
    have hq2 : q b < q a := by
      rcases Nat.lt_or_ge (q b) (q a) with h5 | h5
      · exact h5
      · exact absurd (h4 a b ha hb (by (try dsimp only at *); omega)) hne
    exact ⟨hq2, h3 b a hb ha hM.symm hq2⟩
  · intro i T hi hiT hT0 hone hc j hj
    obtain ⟨x, y, x1, y1, hb, hs⟩ := span_set h hone
    have hyi : y = i := by
      rcases (ins_bit).mp y1 with h5 | h5
      · have := hc x y x1 h5
        (try dsimp only at *); omega
      · exact h5
    subst hyi
    have hjl := bit_lt hone.2.1 (ins_bit.mpr (Or.inl hj))
    have hle := (hb j (ins_bit.mpr (Or.inl hj))).2
    have hlt : q j < q y := by
      rcases Nat.lt_or_ge (q j) (q y) with h5 | h5
      · exact h5
      · have := h4 j y hjl hi (by (try dsimp only at *); omega)
        subst this
        rw [hiT] at hj; cases hj
    obtain ⟨_, _, mm, hmm⟩ := hone
    exact (hB j y).mpr ⟨hi, hlt, h3 j y hjl hi (by rw [hmm j (ins_bit.mpr (Or.inl hj)), hmm y y1]) hlt⟩
  · intro i T hi hiT hT0 hone hc j hj
    obtain ⟨x, y, x1, y1, hb, hs⟩ := span_set h hone
    have hxi : x = i := by
      rcases (ins_bit).mp x1 with h5 | h5
      · have := hc x y h5 y1
        (try dsimp only at *); omega
      · exact h5
    subst hxi
    have hjl := bit_lt hone.2.1 (ins_bit.mpr (Or.inl hj))
    have hle := (hb j (ins_bit.mpr (Or.inl hj))).1
    have hlt : q x < q j := by
      rcases Nat.lt_or_ge (q x) (q j) with h5 | h5
      · exact h5
      · have := h4 x j hi hjl (by (try dsimp only at *); omega)
        subst this
        rw [hiT] at hj; cases hj
    obtain ⟨_, _, mm, hmm⟩ := hone
    exact (hB x j).mpr ⟨hjl, hlt, h3 x j hi hjl (by rw [hmm j (ins_bit.mpr (Or.inl hj)), hmm x x1]) hlt⟩
  · intro i T hi hone hT
    obtain ⟨x, y, x1, y1, hb, hs⟩ := span_set h hone
    have := (hB y i).mp (hT y y1)
    exact ⟨x, x1, by (try dsimp only at *); omega⟩
  · intro i T hi hone hT
    obtain ⟨x, y, x1, y1, hb, hs⟩ := span_set h hone
    have := (hB i x).mp (hT x x1)
    exact ⟨y, y1, by (try dsimp only at *); omega⟩
  · rintro (⟨t, ht, hb⟩ | ⟨T, hT, hc⟩)
    · have := (hB t t).mp hb
      (try dsimp only at *); omega
    · obtain ⟨x, y, x1, y1, hb, hs⟩ := span_set h hT
      have := hc x y x1 y1
      (try dsimp only at *); omega
  · intro a b ha hb hab
    exact ((hB a b).mp hab).2.2
theorem plan_ahead {S : TS} {F L : Nat → Int} {B : Nat → Nat} (hl : Told S F L B) {s q : Nat → Nat} (h : IsPlan S s q) : ∀ t, t < tn S → F t ≤ (s t : Int) ∧ (s t : Int) + (tP S t : Int) ≤ L t ∧ ∀ b, b < tn S → bt B t b → s t + tP S t ≤ s b := by
  obtain ⟨B', h1, -, h3⟩ := plan_closed2 h
  intro t ht
  obtain ⟨e1, e2, e3⟩ := hl _ _ _ h1 t ht
  exact ⟨e1, by (try dsimp only at *); omega, fun b hb hx => h3 t b ht hb (e3 b hb hx)⟩
/-- the places may be told by the starts -/
theorem plan_resort {S : TS} {s q : Nat → Nat} (hn : tn S ≤ 8) (hP : ∀ t, t < tn S → 1 ≤ tP S t) (h : IsPlan S s q) : IsPlan S s (fun t => 8 * s t + t) := by
  obtain ⟨h1, h2, h3, h4⟩ := h
  refine ⟨h1, fun a b ha hb hg => ?_, fun a b ha hb hM hq => ?_, fun a b ha hb e => ?_⟩
  · have h5 := (h2 a b ha hb hg).2
    have := hP a ha
    exact ⟨by (try dsimp only); omega, h5⟩
  · (try dsimp only at hq)
    rcases Nat.lt_trichotomy (q a) (q b) with h5 | h5 | h5
    · exact h3 a b ha hb hM h5
    · have := h4 a b ha hb h5
      subst this
      omega
    · have h6 := h3 b a hb ha hM.symm h5
      have := hP b hb
      omega
  · (try dsimp only at e)
    omega
theorem min_of {p : Nat → Prop} (f : Nat → Nat) : ∀ m t, p t → f t ≤ m → ∃ t, p t ∧ ∀ u, p u → f t ≤ f u := by
  intro m
  induction m with
  | zero => intro t h h0; exact ⟨t, h, fun u _ => by omega⟩
  | succ m ih =>
    intro t h h0
    by_cases e : ∃ u, p u ∧ f u < f t
    · obtain ⟨u, hu, hlt⟩ := e
      exact ih u hu (by omega)
    · exact ⟨t, h, fun u hu => by
        rcases Nat.lt_or_ge (f u) (f t) with h5 | h5
        · exact absurd ⟨u, hu, h5⟩ e
        · exact h5⟩
theorem min_of9 {α : Type} {p : α → Prop} (f : α → Nat) : ∀ m t, p t → f t ≤ m → ∃ t, p t ∧ ∀ u, p u → f t ≤ f u := by
  intro m
  induction m with
  | zero => intro t h h0; exact ⟨t, h, fun u _ => by omega⟩
  | succ m ih =>
    intro t h h0
    by_cases e : ∃ u, p u ∧ f u < f t
    · obtain ⟨u, hu, hlt⟩ := e
      exact ih u hu (by omega)
    · exact ⟨t, h, fun u hu => by
        rcases Nat.lt_or_ge (f u) (f t) with h5 | h5
        · exact absurd ⟨u, hu, h5⟩ e
        · exact h5⟩
/-- the tasks in the order of their places -/
theorem row_ex {S : TS} {q : Nat → Nat} (hq : ∀ a b, a < tn S → b < tn S → q a = q b → a = b) : ∀ k, k ≤ tn S → ∃ ρ : Nat → Nat, (∀ j, j < k → ρ j < tn S) ∧ (∀ i j, i < j → j < k → q (ρ i) < q (ρ j)) ∧ (∀ t, t < tn S → (∀ j, j < k → ρ j ≠ t) → ∀ j, j < k → q (ρ j) < q t) := by
  intro k
  induction k with
  | zero => intro _; exact ⟨fun _ => 0, fun j hj => absurd hj (Nat.not_lt_zero _), fun i j _ hj => absurd hj (Nat.not_lt_zero _), fun t _ _ j hj => absurd hj (Nat.not_lt_zero _)⟩
  | succ k ih =>
    intro hk
    obtain ⟨ρ, h1, h2, h3⟩ := ih (by omega)
    have hex : ∃ t, t < tn S ∧ ∀ j, j < k → ρ j ≠ t := by
      apply Classical.byContradiction
      intro hno
      have h4 : ∀ t, t < tn S → (rs ρ k).testBit t = true := fun t ht => by
        rw [rs_bit]
        apply Classical.byContradiction
        intro hn
        exact hno ⟨t, ht, fun j hj e => hn ⟨j, hj, e⟩⟩
      have h5 := pop_all (tn S) h4
      have h6 := rs_pop (ρ := ρ) (n := tn S) k
      omega
    obtain ⟨t0, ht0⟩ := hex
    obtain ⟨t, ⟨ht, hun⟩, hmin⟩ := min_of (p := fun t => t < tn S ∧ ∀ j, j < k → ρ j ≠ t) q (q t0) t0 ht0 (Nat.le_refl _)
    have hold : ∀ j, j < k → va_up ρ k t j = ρ j := fun j hj => vu_ne (by omega)
    have hnew : va_up ρ k t k = t := vu_at
    refine ⟨va_up ρ k t, fun j hj => ?_, fun i j hij hj => ?_, fun u hu hnu j hj => ?_⟩
    · by_cases e : j = k
      · rw [e, hnew]; exact ht
      · rw [hold j (by omega)]; exact h1 j (by omega)
    · by_cases e : j = k
      · rw [e, hnew, hold i (by omega)]; exact h3 t ht hun i (by omega)
      · rw [hold j (by omega), hold i (by omega)]; exact h2 i j hij (by omega)
    · have hun2 : ∀ i, i < k → ρ i ≠ u := fun i hi => by
        have := hnu i (by omega)
        rw [hold i hi] at this
        exact this
      by_cases e : j = k
      · rw [e, hnew]
        have hne : t ≠ u := by
          have := hnu k (by omega)
          rw [hnew] at this
          exact this
        have := hmin u ⟨hu, hun2⟩
        rcases Nat.lt_or_ge (q t) (q u) with h5 | h5
        · exact h5
        · exact absurd (hq t u ht hu (by omega)) hne
      · rw [hold j (by omega)]; exact h3 u hu hun2 j (by omega)
/-- a possible plan by starts has a row, whose plan ends no later -/
theorem row_plan {S : TS} {s q : Nat → Nat} (h : IsPlan S s q) : ∃ ρ, Cons S ρ ∧ plB S ρ (tn S) = true ∧ ∀ t, t < tn S → stA S ρ (tn S) t ≤ s t := by
  obtain ⟨h1, h2, h3, h4⟩ := h
  obtain ⟨ρ, r1, r2, r3⟩ := row_ex (S := S) (q := q) h4 (tn S) (Nat.le_refl _)
  have hc : Cons S ρ := by
    intro j hj
    refine ⟨r1 j hj, ?_⟩
    unfold csB
    rw [Bool.and_eq_true]
    constructor
    · have : (rs ρ j).testBit (ρ j) = false := by
        cases e : (rs ρ j).testBit (ρ j) with
        | false => rfl
        | true =>
          obtain ⟨i, hi, e2⟩ := (rs_bit j).mp e
          have := r2 i j hi hj
          rw [e2] at this
          omega
      rw [this]; rfl
    · rw [decide_eq_true_iff, nd_zero]
      intro i hi
      obtain ⟨hin, hg⟩ := tA_bit.mp hi
      have hlt := (h2 i (ρ j) hin (r1 j hj) hg).1
      rw [rs_bit]
      apply Classical.byContradiction
      intro hno
      have hun : ∃ j', j' < tn S ∧ ρ j' = i := by
        apply Classical.byContradiction
        intro hn2
        have := r3 i hin (fun j' hj' e => hn2 ⟨j', hj', e⟩) j hj
        omega
      obtain ⟨j', hj', rfl⟩ := hun
      rcases Nat.lt_trichotomy j' j with h5 | h5 | h5
      · exact hno ⟨j', h5, rfl⟩
      · rw [h5] at hlt; omega
      · have := r2 j j' h5 hj'
        omega
  have hst : ∀ k, k ≤ tn S → ∀ j, j < k → stA S ρ k (ρ j) ≤ s (ρ j) := by
    intro k
    induction k with
    | zero => intro _ j hj; exact absurd hj (Nat.not_lt_zero _)
    | succ k ih =>
      intro hk j hj
      have ih := ih (by omega)
      by_cases e : j = k
      · rw [e, stA_new]
        refine (stE_le_iff k).mpr ⟨(h1 (ρ k) (r1 k (by omega))).1, fun i hi hor => ?_⟩
        have h5 := ih i hi
        have h6 := r2 i k hi (by omega)
        rcases hor with h7 | h7
        · have := h3 (ρ i) (ρ k) (r1 i (by omega)) (r1 k (by omega)) h7 h6
          omega
        · have := (h2 (ρ i) (ρ k) (r1 i (by omega)) (r1 k (by omega)) h7).2
          omega
      · have h6 := r2 j k (by omega) (by omega)
        rw [stA_old (fun e2 => by rw [e2] at h6; omega)]
        exact ih j (by omega)
  refine ⟨ρ, hc, plB_iff.mpr (fun j hj => ?_), fun t ht => ?_⟩
  · have h5 := hst (j + 1) (by omega) j (by omega)
    rw [stA_new] at h5
    have := (h1 (ρ j) (r1 j hj)).2
    omega
  · obtain ⟨j, hj, rfl⟩ := Cons_all hc ht
    exact hst (tn S) (Nat.le_refl _) j hj
/-- the best plan ends no later than any possible one -/
theorem best_le {S : TS} {v : Int} {β : Nat → Nat} (hB : BestOf S (fun _ => True) v β) {s q : Nat → Nat} (h : IsPlan S s q) {c : Nat} (hc : ∀ t, t < tn S → s t + tP S t ≤ c) : v ≠ -1 ∧ v ≤ c := by
  obtain ⟨ρ, r1, r2, r3⟩ := row_plan h
  have hm : msA S ρ (tn S) ≤ c := (msA_le_iff (tn S) r1).mpr (fun j hj => by
    have h5 := r3 (ρ j) (r1 j hj).1
    have h6 := hc (ρ j) (r1 j hj).1
    omega)
  rcases hB with ⟨rfl, h3⟩ | ⟨rfl, -, -, -, h6⟩
  · exact absurd r2 (h3 ρ r1 trivial)
  · have := (h6 ρ r1 trivial r2).1
    exact ⟨by omega, by omega⟩
theorem best_none {S : TS} {β : Nat → Nat} (hB : BestOf S (fun _ => True) (-1) β) (s q : Nat → Nat) : ¬ IsPlan S s q := fun h => by
  obtain ⟨m, hm⟩ := qmax (tn S) (fun t => s t + tP S t)
  exact (best_le hB h (c := m) (fun t ht => Nat.le_of_lt (hm t ht))).1 rfl
/-- what is known of the best plan: its starts s, places q -/
def BP (S : TS) (v : Nat) (β s q : Nat → Nat) : Prop := BestOf S (fun _ => True) (v : Int) β ∧ (∀ j, j < tn S → β j < tn S ∧ q (β j) = j) ∧ (∀ t, t < tn S → q t < tn S ∧ β (q t) = t) ∧ IsPlan S s q ∧ (∀ t, t < tn S → s t = stA S β (tn S) t ∧ s t + tP S t ≤ v) ∧ (∀ c, (∀ t, t < tn S → s t + tP S t ≤ c) → v ≤ c)
theorem best_plan {S : TS} {v : Int} {β : Nat → Nat} (hB : BestOf S (fun _ => True) v β) (hv : v ≠ -1) : ∃ (u : Nat) (s q : Nat → Nat), v = u ∧ BP S u β s q := by
  have hB' := hB
  rcases hB with ⟨rfl, -⟩ | ⟨rfl, h3, -, h5, h6⟩
  · exact absurd rfl hv
  · obtain ⟨q, hq, hp⟩ := plan_of h3 h5
    refine ⟨_, stA S β (tn S), q, rfl, hB', fun j hj => ⟨(h3 j hj).1, hq j hj⟩, fun t ht => ?_, hp, fun t ht => ⟨rfl, end_ms h3 ht⟩, fun c hc => ?_⟩
    · obtain ⟨j, hj, rfl⟩ := Cons_all h3 ht
      rw [hq j hj]
      exact ⟨hj, rfl⟩
    · exact (msA_le_iff (tn S) h3).mpr (fun j hj => hc (β j) (h3 j hj).1)
/-! dominance -/
def HasP (S : TS) (c : Nat) : Prop := ∃ s q, IsPlan S s q ∧ ∀ t, t < tn S → s t + tP S t ≤ c
theorem HasP_best {S : TS} {v : Int} {β : Nat → Nat} (hB : BestOf S (fun _ => True) v β) (c : Nat) : HasP S c ↔ v ≠ -1 ∧ v ≤ c := by
  constructor
  · rintro ⟨s, q, h, hc⟩
    exact best_le hB h hc
  · rintro ⟨h1, h2⟩
    obtain ⟨u, s, q, rfl, h⟩ := best_plan hB h1
    exact ⟨s, q, h.2.2.2.1, fun t ht => by have := (h.2.2.2.2.1 t ht).2; omega⟩
theorem HasP_eq {S S' : TS} {v v' : Int} {β β' : Nat → Nat} (hB : BestOf S (fun _ => True) v β) (hB' : BestOf S' (fun _ => True) v' β') (h : ∀ c, HasP S' c ↔ HasP S c) : v = v' := by
  have key : ∀ c : Nat, (v' ≠ -1 ∧ v' ≤ c) ↔ (v ≠ -1 ∧ v ≤ c) := fun c => (HasP_best hB' c).symm.trans ((h c).trans (HasP_best hB c))
  have n1 : v = -1 ∨ 0 ≤ v := by
    rcases hB with ⟨h1, -⟩ | ⟨h1, -⟩ <;> omega
  have n2 : v' = -1 ∨ 0 ≤ v' := by
    rcases hB' with ⟨h1, -⟩ | ⟨h1, -⟩ <;> omega
  rcases n1 with e1 | e1
  · rcases n2 with e2 | e2
    · omega
    · have := (key v'.toNat).mp ⟨by omega, by omega⟩
      omega
  · have k1 := (key v.toNat).mpr ⟨by omega, by omega⟩
    have k2 := (key v'.toNat).mp ⟨by omega, by omega⟩
    omega
theorem give_up {S : TS} {a b x y : Nat} (h : bt (tG S) x y) : bt (tG (tsGive S a b true)) x y := by
  show (va_up (tG S) a (if true then tG S a ||| 2 ^ b else nd (tG S a) (2 ^ b)) x).testBit y = true
  by_cases e : x = a
  · rw [e, vu_at, if_pos rfl, Nat.testBit_or, Bool.or_eq_true]
    rw [e] at h
    exact Or.inl h
  · rw [vu_ne e]; exact h
theorem plan_give {S : TS} {s q : Nat → Nat} {a b : Nat} (h : IsPlan S s q) (hq : q a < q b) (hs : s a + tP S a ≤ s b) : IsPlan (tsGive S a b true) s q :=
  ⟨h.1, fun x y hx hy hg => (give_bt hg).elim (h.2.1 x y hx hy) (fun ⟨_, e1, e2⟩ => by subst e1; subst e2; exact ⟨hq, hs⟩), h.2.2.1, h.2.2.2⟩
theorem plan_ungive {S : TS} {s q : Nat → Nat} {a b : Nat} (h : IsPlan (tsGive S a b true) s q) : IsPlan S s q :=
  ⟨h.1, fun x y hx hy hg => h.2.1 x y hx hy (give_up hg), h.2.2.1, h.2.2.2⟩
def sw (a b t : Nat) : Nat := if t = a then b else if t = b then a else t
theorem sw_a (a b : Nat) : sw a b a = b := by simp [sw]
theorem sw_b (a b : Nat) : sw a b b = a := by
  unfold sw
  by_cases e : b = a
  · rw [if_pos e]; exact e
  · rw [if_neg e, if_pos rfl]
theorem sw_o {a b t : Nat} (h1 : t ≠ a) (h2 : t ≠ b) : sw a b t = t := by simp [sw, h1, h2]
theorem sw_sw (a b t : Nat) : sw a b (sw a b t) = t := by
  by_cases e1 : t = a
  · rw [e1, sw_a, sw_b]
  · by_cases e2 : t = b
    · rw [e2, sw_b, sw_a]
    · rw [sw_o e1 e2, sw_o e1 e2]
theorem dom_plan {S : TS} {a b c : Nat} (ha : a < tn S) (hb : b < tn S) (hd : domB S a b = true) : HasP (tsGive S a b true) c ↔ HasP S c := by
  unfold domB at hd
  obtain ⟨d1, d2, d3, d4, d5, d6, d7, d8, -⟩ := of_decide_eq_true hd
  have hpre : ∀ x, x ≠ a → x ≠ b → (tA S a).testBit x = true → (tA S b).testBit x = true := by
    intro x xa xb hx
    have hm : (2 ^ a ||| 2 ^ b).testBit x = false := by
      rw [Nat.testBit_or, Nat.testBit_two_pow, Nat.testBit_two_pow, decide_eq_false (fun e => xa e.symm), decide_eq_false (fun e => xb e.symm)]; rfl
    have := nd_zero.mp d7 x (by rw [nd_bit, hx, hm]; rfl)
    rw [nd_bit, Bool.and_eq_true] at this
    exact this.1
  have hsuc : ∀ x, x ≠ a → x ≠ b → (tG S b).testBit x = true → (tG S a).testBit x = true := by
    intro x xa xb hx
    have hm : (2 ^ a ||| 2 ^ b).testBit x = false := by
      rw [Nat.testBit_or, Nat.testBit_two_pow, Nat.testBit_two_pow, decide_eq_false (fun e => xa e.symm), decide_eq_false (fun e => xb e.symm)]; rfl
    have := nd_zero.mp d8 x (by rw [nd_bit, hx, hm]; rfl)
    rw [nd_bit, Bool.and_eq_true] at this
    exact this.1
  constructor
  · rintro ⟨s, q, h, hc⟩
    exact ⟨s, q, plan_ungive h, hc⟩
  · rintro ⟨s, q, h, hc⟩
    have h' := h
    obtain ⟨h1, h2, h3, h4⟩ := h'
    by_cases e : q a < q b
    · exact ⟨s, q, plan_give h e (h3 a b ha hb d2 e), hc⟩
    · have e2 : q b < q a := by
        rcases Nat.lt_or_ge (q b) (q a) with h5 | h5
        · exact h5
        · exact absurd (h4 a b ha hb (by omega)) d1
      have e3 : s b + tP S b ≤ s a := h3 b a hb ha d2.symm e2
      have hlt : ∀ t, t < tn S → sw a b t < tn S := fun t ht => by unfold sw; split <;> (try split) <;> omega
      have hMs : ∀ t, tM S (sw a b t) = tM S t := fun t => by
        by_cases x1 : t = a
        · rw [x1, sw_a]; exact d2.symm
        · by_cases x2 : t = b
          · rw [x2, sw_b]; exact d2
          · rw [sw_o x1 x2]
      have hPs : ∀ t, tP S (sw a b t) = tP S t := fun t => by
        by_cases x1 : t = a
        · rw [x1, sw_a]; exact d3.symm
        · by_cases x2 : t = b
          · rw [x2, sw_b]; exact d3
          · rw [sw_o x1 x2]
      have qa := h1 a ha
      have qb := h1 b hb
      refine ⟨fun t => s (sw a b t), fun t => q (sw a b t), ⟨fun t ht => ?_, fun x y hx hy hg => ?_, fun x y hx hy hM hq => ?_, fun x y hx hy hq => ?_⟩, fun t ht => ?_⟩
      · show tR S t ≤ s (sw a b t) ∧ s (sw a b t) + tP S t ≤ tD S t
        by_cases x1 : t = a
        · rw [x1, sw_a]; omega
        · by_cases x2 : t = b
          · rw [x2, sw_b]; omega
          · rw [sw_o x1 x2]; exact h1 t ht
      · show q (sw a b x) < q (sw a b y) ∧ s (sw a b x) + tP S x ≤ s (sw a b y)
        rcases give_bt hg with hg2 | ⟨-, rfl, rfl⟩
        · have hxy := h2 x y hx hy hg2
          by_cases x1 : x = a
          · subst x1
            by_cases y1 : y = x
            · subst y1; omega
            · by_cases y2 : y = b
              · subst y2; omega
              · rw [sw_a, sw_o y1 y2]; omega
          · by_cases x2 : x = b
            · subst x2
              by_cases y1 : y = a
              · subst y1
                have hg3 : (tG S x).testBit y = true := hg2
                rw [d6] at hg3; cases hg3
              · by_cases y2 : y = x
                · subst y2; omega
                · have := h2 a y ha hy (hsuc y y1 y2 hg2)
                  rw [sw_b, sw_o y1 y2]; omega
            · rw [sw_o x1 x2]
              by_cases y1 : y = a
              · subst y1
                have hxb := tA_bit.mp (hpre x x1 x2 (tA_bit.mpr ⟨hx, hg2⟩))
                have := h2 x b hx hb hxb.2
                rw [sw_a]; exact this
              · by_cases y2 : y = b
                · subst y2
                  rw [sw_b]; omega
                · rw [sw_o y1 y2]; exact hxy
        · rw [sw_a, sw_b]; omega
      · show s (sw a b x) + tP S x ≤ s (sw a b y)
        have := h3 (sw a b x) (sw a b y) (hlt x hx) (hlt y hy) (by rw [hMs, hMs]; exact hM) hq
        rw [hPs] at this
        exact this
      · have := h4 (sw a b x) (sw a b y) (hlt x hx) (hlt y hy) hq
        rw [← sw_sw a b x, this, sw_sw]
      · show s (sw a b t) + tP S t ≤ c
        have := hc (sw a b t) (hlt t ht)
        rw [hPs] at this
        exact this
theorem gdB_has {X : TS × Nat} {mc a c : Nat} (h : Fine X.1 mc) (ha : a < tn X.1) : ∀ b, b ≤ tn X.1 → (HasP (gdB a X b).1 c ↔ HasP X.1 c) := by
  intro b
  induction b with
  | zero => intro _; exact Iff.rfl
  | succ b ih =>
    intro hb
    obtain ⟨i1, i2, i3⟩ := gdB_ok h ha b (by omega)
    rw [gdB]
    split
    · next hc => exact (dom_plan (by rw [i2]; exact ha) (by rw [i2]; omega) hc.1).trans (ih (by omega))
    · exact ih (by omega)
theorem gdA_has {S : TS} {mc c : Nat} (h : Fine S mc) : ∀ a, a ≤ tn S → (HasP (gdA S a).1 c ↔ HasP S c) := by
  intro a
  induction a with
  | zero => intro _; exact Iff.rfl
  | succ a ih =>
    intro ha
    obtain ⟨i1, i2, i3⟩ := gdA_ok h a (by omega)
    rw [gdA]
    exact (gdB_has i1 (by rw [i2]; omega) (tn S) (by rw [i2]; omega)).trans (ih (by omega))
/-! how many are given -/
theorem pop_add {a i : Nat} (h : a.testBit i = false) : ∀ k, pop (a ||| 2 ^ i) k = pop a k + (if i < k then 1 else 0)
  | 0 => by simp [pop]
  | k + 1 => by
    have ih := pop_add h k
    rw [pop, pop, ih, Nat.testBit_or, Nat.testBit_two_pow]
    by_cases e : i = k
    · subst e
      rw [h]
      simp
    · rw [decide_eq_false e, Bool.or_false]
      by_cases e2 : i < k
      · rw [if_pos e2, if_pos (show i < k + 1 by omega)]; omega
      · rw [if_neg e2, if_neg (show ¬ i < k + 1 by omega)]; omega
theorem gTo_give {S : TS} {a b : Nat} (hb : b < 8) (h : (tG S a).testBit b = false) : ∀ k, gTo (tsGive S a b true) k = gTo S k + (if a < k then 1 else 0)
  | 0 => by simp [gTo]
  | k + 1 => by
    have ih := gTo_give hb h k
    rw [gTo, gTo, ih]
    show gTo S k + _ + pop (va_up (tG S) a (if true then tG S a ||| 2 ^ b else nd (tG S a) (2 ^ b)) k) 8 = _
    by_cases e : k = a
    · subst e
      rw [vu_at, if_pos rfl, pop_add h, if_pos hb, if_neg (Nat.lt_irrefl _), if_pos (Nat.lt_succ_self _)]
      omega
    · rw [vu_ne e]
      by_cases e2 : a < k
      · rw [if_pos e2, if_pos (show a < k + 1 by omega)]; omega
      · rw [if_neg e2, if_neg (show ¬ a < k + 1 by omega)]; omega
theorem gMany_give {S : TS} {a b : Nat} (ha : a < tn S) (hb : b < 8) (h : (tG S a).testBit b = false) : gMany (tsGive S a b true) = gMany S + 1 := by
  show gTo (tsGive S a b true) (tn S) = gTo S (tn S) + 1
  rw [gTo_give hb h, if_pos ha]
theorem gdB_many {X : TS × Nat} {mc a : Nat} (h : Fine X.1 mc) (ha : a < tn X.1) : ∀ b, b ≤ tn X.1 → gMany (gdB a X b).1 + X.2 = gMany X.1 + (gdB a X b).2 := by
  intro b
  induction b with
  | zero => intro _; rfl
  | succ b ih =>
    intro hb
    have ih := ih (by omega)
    obtain ⟨i1, i2, i3⟩ := gdB_ok h ha b (by omega)
    have h8 := i1.1.1
    rw [gdB]
    split
    · next hc =>
      have := gMany_give (S := (gdB a X b).1) (a := a) (b := b) (by rw [i2]; exact ha) (by omega) hc.2.1
      show gMany (tsGive (gdB a X b).1 a b true) + X.2 = gMany X.1 + ((gdB a X b).2 + 1)
      omega
    · exact ih
theorem gdA_many {S : TS} {mc : Nat} (h : Fine S mc) : ∀ a, a ≤ tn S → gMany (gdA S a).1 = gMany S + (gdA S a).2 := by
  intro a
  induction a with
  | zero => intro _; rfl
  | succ a ih =>
    intro ha
    have ih := ih (by omega)
    obtain ⟨i1, i2, i3⟩ := gdA_ok h a (by omega)
    have := gdB_many i1 (a := a) (by rw [i2]; omega) (tn S) (by rw [i2]; omega)
    rw [gdA]
    omega
theorem gTo_le (S : TS) : ∀ k, gTo S k ≤ 8 * k
  | 0 => Nat.le_refl _
  | k + 1 => by
    have h1 := gTo_le S k
    have h2 := pop_le (tG S k) 8
    rw [gTo]; omega
/-! what if -/
theorem due_good {S : TS} {s q : Nat → Nat} (h : IsPlan S s q) {t : Nat} (ht : t < tn S) : RGood (tsDue S t (s t + tP S t)) := by
  refine plan_good (s := s) (q := q) ⟨fun u hu => ?_, h.2.1, h.2.2.1, h.2.2.2⟩
  have h1 := h.1 u hu
  refine ⟨h1.1, ?_⟩
  show s u + tP S u ≤ va_up (tD S) t (s t + tP S t) u
  by_cases e : u = t
  · rw [e, vu_at]; exact Nat.le_refl _
  · rw [vu_ne e]; exact h1.2
theorem cap_good {S : TS} {s q : Nat → Nat} (h : IsPlan S s q) {c : Nat} (hc : ∀ t, t < tn S → s t + tP S t ≤ c) : RGood (tsCap S c) := by
  refine plan_good (s := s) (q := q) ⟨fun u hu => ?_, h.2.1, h.2.2.1, h.2.2.2⟩
  have h1 := h.1 u hu
  refine ⟨h1.1, ?_⟩
  show s u + tP S u ≤ min (tD S u) c
  have := hc u hu
  omega
theorem cap_same {S : TS} {mc : Nat} (hok : TSok S mc) (h : RGood S) : RGood (tsCap S 400) :=
  RGood_looser (S := S) (S' := tsCap S 400) rfl rfl rfl (fun _ _ => Nat.le_refl _) (fun t ht => by
    show tD S t ≤ min (tD S t) 400
    have := (hok.2.2.2 t ht).2.2.2.1
    omega) (fun _ _ _ _ h => h) h
theorem give_bad {S : TS} {a b : Nat} (h : ¬ RGood S) : ¬ RGood (tsGive S a b true) := fun hg => h (RGood_looser (S := tsGive S a b true) (S' := S) rfl rfl rfl (fun _ _ => Nat.le_refl _) (fun _ _ => Nat.le_refl _) (fun _ _ _ _ h => give_up h) hg)
/-- drawn rows make no better plan -/
theorem drawn_row {S : TS} {mc s : Nat} (h : Fine S mc) : ∀ k, (dMs S s k).2 = -1 ∨ ∃ ρ, Cons S ρ ∧ plB S ρ (tn S) = true ∧ (dMs S s k).2 = (msA S ρ (tn S) : Nat)
  | 0 => Or.inl rfl
  | k + 1 => by
    have ih := drawn_row (s := s) h k
    rw [dMs]
    dsimp only
    split
    · next hc =>
      refine Or.inr ⟨(dw S (dMs S s k).1 (tn S)).2, dw_cons h (tn S) (Nat.le_refl _), ?_⟩
      have h1 := hc.1
      unfold planR at h1 ⊢
      cases hb : plB S (dw S (dMs S s k).1 (tn S)).2 (tn S) with
      | true => exact ⟨rfl, by simp⟩
      | false => rw [hb] at h1; simp at h1
    · exact ih
theorem drawn_best {S : TS} {mc s : Nat} (h : Fine S mc) {v : Int} {β : Nat → Nat} (hB : BestOf S (fun _ => True) v β) (k : Nat) : (dMs S s k).2 = -1 ∨ (v ≠ -1 ∧ v ≤ (dMs S s k).2) := by
  rcases drawn_row (s := s) h k with h1 | ⟨ρ, h1, h2, h3⟩
  · exact Or.inl h1
  · right
    rcases hB with ⟨rfl, h4⟩ | ⟨rfl, -, -, -, h6⟩
    · exact absurd h2 (h4 ρ h1 trivial)
    · have := (h6 ρ h1 trivial h2).1
      rw [h3]
      omega
/-! where a row of given precedences leads -/
def lro (G : Nat → Nat) (m : Nat) : Nat → Nat
  | 0 => m
  | t + 1 => if (lro G m t).testBit t = true then lro G m t ||| G t else lro G m t
def lrn (G : Nat → Nat) (n m : Nat) : Nat → Nat
  | 0 => m
  | k + 1 => lro G (lrn G n m k) n
theorem lro_up {G : Nat → Nat} {m : Nat} : ∀ t, Sub m (lro G m t)
  | 0 => Sub.rf m
  | t + 1 => by
    rw [lro]
    split
    · exact (lro_up t).tr (Sub_or_l _ _)
    · exact lro_up t
theorem lro_mono {G : Nat → Nat} {m : Nat} {t : Nat} : ∀ k, Sub (lro G m t) (lro G m (t + k))
  | 0 => Sub.rf _
  | k + 1 => by
    refine (lro_mono (t := t) k).tr ?_
    show Sub (lro G m (t + k)) (lro G m (t + k + 1))
    rw [lro]
    split
    · exact Sub_or_l _ _
    · exact Sub.rf _
theorem lro_lt {G : Nat → Nat} {m n : Nat} (hG : ∀ t, t < n → G t < 2 ^ n) (hm : m < 2 ^ n) : ∀ t, t ≤ n → lro G m t < 2 ^ n
  | 0, _ => hm
  | t + 1, h => by
    have ih := lro_lt hG hm t (by omega)
    rw [lro]
    split
    · exact Nat.or_lt_two_pow ih (hG t (by omega))
    · exact ih
theorem lro_step {G : Nat → Nat} {m n t : Nat} (ht : t < n) (hb : m.testBit t = true) : Sub (G t) (lro G m n) := by
  have h1 : Sub (lro G m (t + 1)) (lro G m (t + 1 + (n - (t + 1)))) := lro_mono (t := t + 1) (n - (t + 1))
  rw [show t + 1 + (n - (t + 1)) = n by omega] at h1
  refine Sub.tr ?_ h1
  rw [lro, if_pos (lro_up t t hb)]
  exact Sub_or_r _ _
theorem lrn_lt {G : Nat → Nat} {m n : Nat} (hG : ∀ t, t < n → G t < 2 ^ n) (hm : m < 2 ^ n) : ∀ k, lrn G n m k < 2 ^ n
  | 0 => hm
  | k + 1 => lro_lt hG (lrn_lt hG hm k) n (Nat.le_refl _)
theorem lrn_up {G : Nat → Nat} {m n : Nat} : ∀ k, Sub m (lrn G n m k)
  | 0 => Sub.rf m
  | k + 1 => (lrn_up k).tr (lro_up n)
theorem leads_rr {S : TS} {mc a b : Nat} (hok : TSok S mc) (ha : a < tn S) (h : (lrn (tG S) (tn S) (tG S a) 8).testBit b = false) : (rr S a).testBit b = false := by
  have hG : ∀ t, t < tn S → tG S t < 2 ^ tn S := fun t ht => (hok.2.2.2 t ht).2.2.2.2.2.2
  have hlt := lrn_lt (n := tn S) hG (hG a ha)
  have hn := hok.1
  have hcl : RCl (tn S) (tG S) (lrn (tG S) (tn S) (tG S a) (tn S + (8 - tn S))) := by
    have := grow_closed (n := tn S) (G := tG S) hG (r := fun k => lrn (tG S) (tn S) (tG S a) (k + (8 - tn S))) (hlt _) (fun k => by
      show Sub _ (lrn (tG S) (tn S) (tG S a) (k + 1 + (8 - tn S)))
      rw [show k + 1 + (8 - tn S) = (k + (8 - tn S)) + 1 by omega, lrn]
      exact lro_up _) (fun k => hlt _) (fun k t ht hb => by
      show Sub _ (lrn (tG S) (tn S) (tG S a) (k + 1 + (8 - tn S)))
      rw [show k + 1 + (8 - tn S) = (k + (8 - tn S)) + 1 by omega, lrn]
      exact lro_step ht hb) (fun k e => by
      have e : lrn (tG S) (tn S) (tG S a) (k + 1 + (8 - tn S)) = lrn (tG S) (tn S) (tG S a) (k + (8 - tn S)) := e
      show lrn (tG S) (tn S) (tG S a) (k + 2 + (8 - tn S)) = lrn (tG S) (tn S) (tG S a) (k + 1 + (8 - tn S))
      have e1 : lrn (tG S) (tn S) (tG S a) (k + 2 + (8 - tn S)) = lro (tG S) (lrn (tG S) (tn S) (tG S a) (k + 1 + (8 - tn S))) (tn S) := by rw [show k + 2 + (8 - tn S) = (k + 1 + (8 - tn S)) + 1 by omega, lrn]
      have e2 : lrn (tG S) (tn S) (tG S a) (k + 1 + (8 - tn S)) = lro (tG S) (lrn (tG S) (tn S) (tG S a) (k + (8 - tn S))) (tn S) := by rw [show k + 1 + (8 - tn S) = (k + (8 - tn S)) + 1 by omega, lrn]
      rw [e1, e, ← e2]
      exact e)
    exact this
  rw [show tn S + (8 - tn S) = 8 by omega] at hcl
  cases hr : (rr S a).testBit b with
  | false => rfl
  | true =>
    have := (rr_reach hok ha).2.2 _ (lrn_up 8) hcl b hr
    rw [h] at this
    cases this
end PM1
