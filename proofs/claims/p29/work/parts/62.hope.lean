/-! WHAT A PREFIX OF A ROW TELLS OF ALL ITS PLANS -/
section HO
theorem stA_fin {S : TS} {ρ : Nat → Nat} {j : Nat} : ∀ {k : Nat}, ConsK S ρ k → j < k → stA S ρ k (ρ j) = stE S (stA S ρ j) ρ (ρ j) j
  | 0, _, h => absurd h (Nat.not_lt_zero _)
  | k + 1, hc, h => by
    by_cases e : j = k
    · subst e; exact stA_new
    · rw [stA_old (ConsK_inj hc (show j < k by omega) (by omega))]
      exact stA_fin (fun i hi => hc i (by omega)) (by omega)
theorem plB_iff {S : TS} {ρ : Nat → Nat} : ∀ {k : Nat}, plB S ρ k = true ↔ ∀ j, j < k → stE S (stA S ρ j) ρ (ρ j) j + tP S (ρ j) ≤ tD S (ρ j)
  | 0 => ⟨fun _ j hj => absurd hj (Nat.not_lt_zero _), fun _ => rfl⟩
  | k + 1 => by
    rw [plB, Bool.and_eq_true, decide_eq_true_iff, plB_iff (k := k)]
    constructor
    · rintro ⟨h1, h2⟩ j hj
      by_cases e : j = k
      · subst e; exact h2
      · exact h1 j (by omega)
    · intro h
      exact ⟨fun j hj => h j (by omega), h k (by omega)⟩
theorem stA_same {S : TS} {ρ : Nat → Nat} {i j k : Nat} (hc : ConsK S ρ k) (hi : i < j) (hj : j ≤ k) : stA S ρ j (ρ i) = stA S ρ k (ρ i) := by
  rw [stA_fin (fun u hu => hc u (by omega)) hi, stA_fin hc (by omega)]
/-- a row of a possible plan is a plan by its starts and places -/
theorem plan_of {S : TS} {ρ : Nat → Nat} (hc : Cons S ρ) (hb : plB S ρ (tn S) = true) : ∃ q : Nat → Nat, (∀ j, j < tn S → q (ρ j) = j) ∧ IsPlan S (stA S ρ (tn S)) q := by
  have hch : ∀ t, ∃ j, t < tn S → j < tn S ∧ ρ j = t := fun t => by
    by_cases e : t < tn S
    · obtain ⟨j, h1, h2⟩ := Cons_all hc e
      exact ⟨j, fun _ => ⟨h1, h2⟩⟩
    · exact ⟨0, fun h => absurd h e⟩
  obtain ⟨q, hq⟩ := Classical.axiomOfChoice hch
  have hqj : ∀ j, j < tn S → q (ρ j) = j := fun j hj => by
    obtain ⟨h1, h2⟩ := hq (ρ j) (hc j hj).1
    exact ConsK_inj' hc h1 hj h2
  have hb := plB_iff.mp hb
  have ord : ∀ i j, i < j → j < tn S → (tM S (ρ i) = tM S (ρ j) ∨ (tG S (ρ i)).testBit (ρ j) = true) → stA S ρ (tn S) (ρ i) + tP S (ρ i) ≤ stA S ρ (tn S) (ρ j) := fun i j hi hj h => by
    rw [stA_fin hc hj, ← stA_same hc hi (by omega)]
    exact ((stE_le_iff j).mp (Nat.le_refl _)).2 i hi h
  refine ⟨q, hqj, fun t ht => ?_, fun a b ha hb' hab => ?_, fun a b ha hb' hm hlt => ?_, fun a b ha hb' he => ?_⟩
  · obtain ⟨h1, h2⟩ := hq t ht
    have h3 := hb _ h1
    rw [← stA_fin hc h1, h2] at h3
    have h4 : stA S ρ (tn S) (ρ (q t)) = _ := stA_fin hc h1
    have h5 := ((stE_le_iff (S := S) (σ := stA S ρ (q t)) (ρ := ρ) (t := ρ (q t)) (q t)).mp (Nat.le_refl _)).1
    rw [← h4, h2] at h5
    exact ⟨h5, h3⟩
  · obtain ⟨h1, h2⟩ := hq a ha
    obtain ⟨k1, k2⟩ := hq b hb'
    have h3 := (hc _ k1).2
    rw [csB, Bool.and_eq_true, decide_eq_true_iff, nd_zero, k2] at h3
    have h4 := h3.2 a (tA_bit.mpr ⟨ha, hab⟩)
    obtain ⟨i, hi, hia⟩ := (rs_bit _).mp h4
    have : i = q a := ConsK_inj' hc (by omega) h1 (by rw [hia, h2])
    subst this
    refine ⟨hi, ?_⟩
    have := ord _ _ hi k1 (Or.inr (by rw [h2, k2]; exact hab))
    rw [h2, k2] at this
    exact this
  · obtain ⟨h1, h2⟩ := hq a ha
    obtain ⟨k1, k2⟩ := hq b hb'
    have := ord _ _ hlt k1 (Or.inl (by rw [h2, k2]; exact hm))
    rw [h2, k2] at this
    exact this
  · obtain ⟨h1, h2⟩ := hq a ha
    obtain ⟨k1, k2⟩ := hq b hb'
    rw [← h2, ← k2, he]
theorem msA_mono {S : TS} {ρ : Nat → Nat} {k : Nat} : ∀ {m : Nat}, k ≤ m → msA S ρ k ≤ msA S ρ m
  | 0, h => by
    have : k = 0 := by omega
    subst this
    exact Nat.le_refl _
  | m + 1, h => by
    by_cases e : k = m + 1
    · subst e; exact Nat.le_refl _
    · have := msA_mono (S := S) (ρ := ρ) (k := k) (m := m) (by omega)
      rw [msA]
      omega
theorem end_ms {S : TS} {ρ : Nat → Nat} (hc : Cons S ρ) {t : Nat} (ht : t < tn S) : stA S ρ (tn S) t + tP S t ≤ msA S ρ (tn S) := by
  obtain ⟨j, hj, rfl⟩ := Cons_all hc ht
  exact (msA_le_iff _ hc).mp (Nat.le_refl _) j hj
/-- no task that is still to come starts before its earliest start -/
theorem early_le {S : TS} {ρ σ : Nat → Nat} {k t : Nat} (hc : Cons S σ) (hk : k ≤ tn S) (ha : ∀ i, i < k → σ i = ρ i) (ht : t < tn S) (hn : (rs ρ k).testBit t = false) : stE S (stA S ρ k) ρ t k ≤ stA S σ (tn S) t := by
  obtain ⟨j, hj, rfl⟩ := Cons_all hc ht
  have hkj : k ≤ j := by
    apply Classical.byContradiction
    intro h
    rw [(rs_bit k).mpr ⟨j, by omega, (ha j (by omega)).symm⟩] at hn
    cases hn
  rw [← stA_congr (ρ := σ) (ρ' := ρ) (k := k) ha, ← stE_congr (ρ := σ) (ρ' := ρ) (k := k) ha, stA_fin hc hj]
  obtain ⟨h1, h2⟩ := (stE_le_iff (S := S) (σ := stA S σ j) (ρ := σ) (t := σ j) j).mp (Nat.le_refl _)
  refine (stE_le_iff k).mpr ⟨h1, fun i hi h => ?_⟩
  rw [stA_same (S := S) (ρ := σ) (i := i) (j := k) (k := j) (fun u hu => hc u (by omega)) hi hkj]
  exact h2 i (by omega) h
/-- no plan of a row that begins so is possible and ends by c -/
def Hopeless (S : TS) (ρ : Nat → Nat) (k : Nat) (c : Int) : Prop := ∀ σ, Cons S σ → (∀ i, i < k → σ i = ρ i) → plB S σ (tn S) = true → c < (msA S σ (tn S) : Nat)
theorem hope1 {S : TS} {ρ : Nat → Nat} {k : Nat} {c : Int} (hk : k ≤ tn S) (h : c < (msA S ρ k : Nat)) : Hopeless S ρ k c := fun σ hc ha _ => by
  have h1 := msA_mono (S := S) (ρ := σ) hk
  rw [msA_congr ha] at h1
  omega
theorem hope2 {S : TS} {ρ : Nat → Nat} {k t : Nat} {c : Int} {F L : Nat → Int} {B : Nat → Nat} (hT : Told S F L B) (hk : k ≤ tn S) (ht : t < tn S) (hn : (rs ρ k).testBit t = false) (h : L t < ((stE S (stA S ρ k) ρ t k + tP S t : Nat) : Int)) : Hopeless S ρ k c := fun σ hc ha hb => by
  obtain ⟨q, -, hp⟩ := plan_of hc hb
  have h1 := (plan_bound hT hp t ht).2.1
  have h2 := early_le hc hk ha ht hn
  omega
/-- the durations of what is still to come on the machine of t and starts no earlier -/
def wkG (S : TS) (E : Nat → Nat) (R t : Nat) (u : Nat) : Bool := !R.testBit u && (decide (tM S u = tM S t) && decide (E t ≤ E u))
theorem hope3 {S : TS} {ρ : Nat → Nat} {k t : Nat} {c : Int} (hk : k ≤ tn S) (ht : t < tn S) (hn : (rs ρ k).testBit t = false) {E : Nat → Nat} (hE : ∀ u, u < tn S → (rs ρ k).testBit u = false → E u = stE S (stA S ρ k) ρ u k) (h : c < ((E t + pSum (tP S) (wkG S E (rs ρ k) t) (tn S) : Nat) : Int)) : Hopeless S ρ k c := fun σ hc ha hb => by
  obtain ⟨q, -, hp⟩ := plan_of hc hb
  obtain ⟨T, hTe⟩ : ∃ T, maskF (wkG S E (rs ρ k) t) (tn S) = T := ⟨_, rfl⟩
  have hbit : ∀ u, T.testBit u = true ↔ u < tn S ∧ wkG S E (rs ρ k) t u = true := fun u => by rw [← hTe, maskF_bit, Bool.and_eq_true, decide_eq_true_iff]
  have htT : T.testBit t = true := (hbit t).mpr ⟨ht, by rw [wkG, hn, decide_eq_true rfl, decide_eq_true (Nat.le_refl _)]; rfl⟩
  have hone : sOne S T := ⟨fun e => (by rw [e, Nat.zero_testBit] at htT; cases htT), by rw [← hTe]; exact maskF_lt _ _, tM S t, fun u hu => by
    have := ((hbit u).mp hu).2
    rw [wkG, Bool.and_eq_true, Bool.and_eq_true, decide_eq_true_iff] at this
    exact this.2.1⟩
  obtain ⟨x, y, hx, hy, -, hxy⟩ := span_set hp hone
  obtain ⟨x1, x2⟩ := (hbit x).mp hx
  rw [wkG, Bool.and_eq_true, Bool.and_eq_true, decide_eq_true_iff, decide_eq_true_iff] at x2
  have x3 : (rs ρ k).testBit x = false := by simpa using x2.1
  have h1 := early_le hc hk ha x1 x3
  rw [← hE x x1 x3] at h1
  have h2 := end_ms hc ((hbit y).mp hy).1
  have h3 : dur S T = ((pSum (tP S) (wkG S E (rs ρ k) t) (tn S) : Nat) : Int) := by
    unfold dur
    rw [sSum_p, pSum_congr (p' := wkG S E (rs ρ k) t) (fun u hu => by rw [← hTe, maskF_bit, decide_eq_true hu, Bool.true_and])]
  have h4 := x2.2.2
  omega
/-- a task before which one is told that is not yet there can't stand next in a possible plan -/
theorem hope4 {S : TS} {ρ : Nat → Nat} {k t : Nat} {F L : Nat → Int} {B : Nat → Nat} (hT : Told S F L B) (hk : k < tn S) (h : nd (ahd (tn S) B t) (rs ρ k) ≠ 0) {σ : Nat → Nat} (hc : Cons S σ) (ha : ∀ i, i < k → σ i = ρ i) (ht : σ k = t) : ¬ plB S σ (tn S) = true := fun hb => by
  obtain ⟨q, hq, hp⟩ := plan_of hc hb
  refine h (nd_zero.mpr (fun a hA => ?_))
  obtain ⟨a1, a2⟩ := ahd_bit.mp hA
  have htn : t < tn S := by rw [← ht]; exact (hc k hk).1
  have h1 := (plan_bound hT hp a a1).2.2 t htn a2
  rw [← ht, hq k hk] at h1
  obtain ⟨i, hi, hia⟩ := Cons_all hc a1
  rw [← hia, hq i hi] at h1
  exact (rs_bit k).mpr ⟨i, h1, by rw [← ha i h1, hia]⟩
/-- rows before a prefix or within it -/
def Af (ρ : Nat → Nat) (k : Nat) (σ : Nat → Nat) : Prop := Bf ρ k 0 σ ∨ ∀ i, i < k → σ i = ρ i
theorem Af_full {S : TS} {ρ σ : Nat → Nat} {k : Nat} (hc : Cons S σ) (hk : k < tn S) : Bf ρ k (tn S) σ ↔ Af ρ k σ := by
  constructor
  · rintro (h | ⟨h1, -⟩)
    · exact Or.inl (Or.inl h)
    · exact Or.inr h1
  · rintro ((h | ⟨_, h⟩) | h)
    · exact Or.inl h
    · exact absurd h (Nat.not_lt_zero _)
    · exact Or.inr ⟨h, (hc k hk).1⟩
/-- the greatest makespan that is still better -/
def limV (v : Int) : Int := if v = -1 then 400 else v - 1
theorem BestOf.hopeless {S : TS} {mc : Nat} (hok : TSok S mc) {ρ : Nat → Nat} {k : Nat} {v : Int} {β : Nat → Nat} (hk : k < tn S) (hB : BestOf S (Bf ρ k 0) v β) (h : Hopeless S ρ k (limV v)) : BestOf S (Af ρ k) v β := hB.more (fun σ _ hσ => Or.inl hσ) (fun σ hc hσ hn hb => by
  have ha : ∀ i, i < k → σ i = ρ i := hσ.elim (fun q => absurd q hn) id
  have h1 := h σ hc ha hb
  have h2 := planR_le hok hb (fun j hj => (hc j hj).1)
  unfold limV at h1
  by_cases e : v = -1
  · rw [if_pos e] at h1; omega
  · rw [if_neg e] at h1
    exact ⟨e, by omega, fun hβ hl => hl.asymm (Bf_lt hβ hk ha (Nat.zero_le _))⟩)
theorem Bf_at {ρ σ τ : Nat → Nat} {k t : Nat} (hk : ∀ i, i < k → τ i = ρ i) : Bf τ k t σ ↔ Bf ρ k t σ := by
  unfold Bf
  constructor
  · rintro (⟨j, h1, h2, h3⟩ | ⟨h1, h2⟩)
    · exact Or.inl ⟨j, h1, fun i hi => by rw [h2 i hi, hk i (by omega)], by rw [← hk j (by omega)]; exact h3⟩
    · exact Or.inr ⟨fun i hi => by rw [h1 i hi, hk i hi], h2⟩
  · rintro (⟨j, h1, h2, h3⟩ | ⟨h1, h2⟩)
    · exact Or.inl ⟨j, h1, fun i hi => by rw [h2 i hi, hk i (by omega)], by rw [hk j (by omega)]; exact h3⟩
    · exact Or.inr ⟨fun i hi => by rw [h1 i hi, hk i hi], h2⟩
theorem Af_step {ρ τ σ : Nat → Nat} {k t : Nat} (hk : ∀ i, i < k → τ i = ρ i) (ht : τ k = t) : Af τ (k + 1) σ ↔ Bf ρ k (t + 1) σ := by
  unfold Af
  rw [Bf_down, ht, Bf_at hk, Bf_succ]
  constructor
  · rintro (h | h)
    · exact Or.inl h
    · exact Or.inr ⟨fun i hi => by rw [h i (by omega), hk i hi], by rw [h k (by omega), ht]⟩
  · rintro (h | ⟨h1, h2⟩)
    · exact Or.inl h
    · refine Or.inr (fun i hi => ?_)
      by_cases e : i = k
      · subst e; rw [h2, ht]
      · rw [h1 i (by omega), hk i (by omega)]
end HO
