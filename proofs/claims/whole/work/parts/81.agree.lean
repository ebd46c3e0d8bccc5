/-! AGREEMENT: what both sides tell is one thing -/
section AG
theorem RL_eq {S : TS} {F L F' L' : Nat → Int} {B B' : Nat → Nat} (h : RLeast S F L B) (hb : StB (tn S) F L B) (h' : RLeast S F' L' B') (hb' : StB (tn S) F' L' B') : ∀ t, t < tn S → F t = F' t ∧ L t = L' t ∧ B t = B' t := fun t ht => by
  obtain ⟨h1, h2, h3⟩ := RLeast_le h h' t ht
  refine ⟨h1, h2, Nat.eq_of_testBit_eq (fun i => ?_)⟩
  by_cases e : i < tn S
  · have := h3 i e
    unfold bt at this
    cases e1 : (B t).testBit i <;> cases e2 : (B' t).testBit i
    · rfl
    · rw [e1, e2] at this; exact absurd (this.mpr rfl) (by decide)
    · rw [e1, e2] at this; exact absurd (this.mp rfl) (by decide)
    · rfl
  · rw [bit_none (hb t ht).2.2 (by omega), bit_none (hb' t ht).2.2 (by omega)]
theorem mnF_eq {F F' : Nat → Int} {n T : Nat} (h : ∀ t, t < n → F t = F' t) : mnF F T n = mnF F' T n := mnF_congr (fun t ht => ⟨rfl, h t ht⟩)
theorem mxL_eq {F F' : Nat → Int} {n T : Nat} (h : ∀ t, t < n → F t = F' t) : mxL F T n = mxL F' T n := mxL_congr (fun t ht => ⟨rfl, h t ht⟩)
theorem lsP_eq {S : TS} {F L F' L' : Nat → Int} (h : ∀ t, t < tn S → F t = F' t ∧ L t = L' t) (a b T : Nat) : lsP S F L a b T ↔ lsP S F' L' a b T := by
  unfold lsP tell3a tell3b
  have h1 := fun T => mnF_eq (T := T) (fun t ht => (h t ht).1)
  have h2 := fun T => mxL_eq (T := T) (fun t ht => (h t ht).2)
  rw [h1, h1, h2, h2]
theorem LsR_eq {S : TS} {F L F' L' : Nat → Int} (h : ∀ t, t < tn S → F t = F' t ∧ L t = L' t) {a b : Nat} {r : Int} (hr : LsR S F L a b r) : LsR S F' L' a b r := by
  rcases hr with ⟨h1, h2⟩ | ⟨T, h1, h2, h3⟩
  · exact Or.inl ⟨h1, fun T hT => h2 T ((lsP_eq h a b T).mpr hT)⟩
  · exact Or.inr ⟨T, h1, (lsP_eq h a b T).mp h2, fun T' hT' hq => h3 T' hT' ((lsP_eq h a b T').mpr hq)⟩
theorem LsR_ex (S : TS) (F L : Nat → Int) (a b : Nat) : ∃ q, LsR S F L a b q := by
  by_cases h : ∃ T, lsP S F L a b T
  · have : ∀ m T, T ≤ m → lsP S F L a b T → ∃ q, LsR S F L a b q := by
      intro m
      induction m with
      | zero =>
        intro T hT hp
        have : T = 0 := by omega
        subst this
        exact ⟨0, Or.inr ⟨0, rfl, hp, fun T' hT' => absurd hT' (Nat.not_lt_zero _)⟩⟩
      | succ m ih =>
        intro T hT hp
        by_cases e : ∃ T', T' < T ∧ lsP S F L a b T'
        · obtain ⟨T', h1, h2⟩ := e
          exact ih T' (by omega) h2
        · exact ⟨T, Or.inr ⟨T, rfl, hp, fun T' hT' hq => e ⟨T', hT', hq⟩⟩⟩
    obtain ⟨T, hT⟩ := h
    exact this T T (Nat.le_refl _) hT
  · exact ⟨-1, Or.inl ⟨rfl, fun T hT => h ⟨T, hT⟩⟩⟩
theorem nOpen_eq {S : TS} {F L F' L' : Nat → Int} {B B' : Nat → Nat} (h : RLeast S F L B) (h' : RLeast S F' L' B') : nOpen S B = nOpen S B' := by
  have hb : ∀ a b, a < tn S → b < tn S → (B a).testBit b = (B' a).testBit b := fun a b ha hb => by
    have := (RLeast_le h h' a ha).2.2 b hb
    unfold bt at this
    cases e1 : (B a).testBit b <;> cases e2 : (B' a).testBit b
    · rfl
    · rw [e1, e2] at this; exact absurd (this.mpr rfl) (by decide)
    · rw [e1, e2] at this; exact absurd (this.mp rfl) (by decide)
    · rfl
  exact sN_congr (fun a ha => cB_congr (fun b hb2 => by
    unfold opn
    rw [hb a b ha (by omega), hb b a (by omega) ha]))
theorem NumR_uniq {S : TS} {mc : Nat} {x : Int} {v v' : Int32} (h : NumR S mc x v) (h' : NumR S mc x v') : v = v' := by
  obtain ⟨a0, a1, a2, a3, a4, a5⟩ := h
  obtain ⟨b0, b1, b2, b3, b4, b5⟩ := h'
  rcases (show x = 0 ∨ x = 1 ∨ x = 2 ∨ x = 3 ∨ x = 4 ∨ (x < 0 ∨ 5 ≤ x) by omega) with e | e | e | e | e | e
  · rw [a0 e, b0 e]
  · rw [a1 e, b1 e]
  · rw [a2 e, b2 e]
  · rw [a3 e, b3 e]
  · rcases a4 e with ⟨g, rfl⟩ | ⟨g, rfl⟩ <;> rcases b4 e with ⟨k, rfl⟩ | ⟨k, rfl⟩
    · rfl
    · exact absurd g k
    · exact absurd k g
    · rfl
  · rcases a5 e with ⟨F, L, B, g, rfl⟩ | ⟨g, rfl⟩ <;> rcases b5 e with ⟨F', L', B', k, rfl⟩ | ⟨k, rfl⟩
    · rw [nOpen_eq g k]
    · exact absurd (RLeast_good g) k
    · exact absurd (RLeast_good k) g
    · rfl
theorem dgV_eq {vs vs' : Nat → Int32} {h : Int64} : ∀ {k : Nat}, (∀ j, j < k → vs j = vs' j) → dgV vs h k = dgV vs' h k
  | 0, _ => rfl
  | k + 1, e => by rw [dgV, dgV, dgV_eq (k := k) (fun j hj => e j (by omega)), e k (by omega)]
theorem dgU_eq {S : TS} {F L F' L' : Nat → Int} {B B' : Nat → Nat} {h : Int64} : ∀ {k : Nat}, (∀ t, t < k → F t = F' t ∧ L t = L' t ∧ B t = B' t) → dgU S F L B h k = dgU S F' L' B' h k
  | 0, _ => rfl
  | k + 1, e => by
    obtain ⟨e1, e2, e3⟩ := e k (by omega)
    rw [dgU, dgU, dgU_eq (k := k) (fun t ht => e t (by omega)), e1, e2, e3]
theorem DigR_uniq {S : TS} {mc n : Nat} {L : List (Nat × TS)} {v v' : Int64} (h : DigR S mc n L v) (h' : DigR S mc n L v') : v = v' := by
  obtain ⟨vs, h1, h2⟩ := h
  obtain ⟨vs', h1', h2'⟩ := h'
  have e := dgV_eq (h := dgN 3769 (nI n)) (k := 6) (fun j hj => NumR_uniq (h1 j hj) (h1' j hj))
  rcases h2 with ⟨g, rfl⟩ | ⟨F, H, B, g, gb, rfl⟩ <;> rcases h2' with ⟨k, rfl⟩ | ⟨F', H', B', k, kb, rfl⟩
  · rw [e]
  · exact absurd (RLeast_good k) g
  · exact absurd (RLeast_good g) k
  · rw [e, dgU_eq (RL_eq g gb k kb)]
/-- the class's end and the reference's: the same answer, or a refusal that the list names by its place -/
def AgI (es : List String) (o : zO) (r v : Int32) : Prop := (o = .inl (some (.int v)) ∧ r = 0) ∨ ∃ (i : Nat) (E : String), es[i]? = some E ∧ o = .inr E ∧ r = nI (i + 1)
theorem AgI.ok {es : List String} {o : zO} {r v u : Int32} (ho : o = .inl (some (.int u))) (hr : r = 0) (hv : u = v) : AgI es o r v := Or.inl ⟨by rw [ho, hv], hr⟩
theorem AgI.e1 {E : String} {es : List String} {o : zO} {r v : Int32} (ho : o = .inr E) (hr : r = 1) : AgI (E :: es) o r v := Or.inr ⟨0, E, rfl, ho, by rw [hr]; rfl⟩
theorem AgI.e2 {E D : String} {es : List String} {o : zO} {r v : Int32} (ho : o = .inr E) (hr : r = 2) : AgI (D :: E :: es) o r v := Or.inr ⟨1, E, rfl, ho, by rw [hr]; rfl⟩
theorem AgI.e3 {E D C : String} {es : List String} {o : zO} {r v : Int32} (ho : o = .inr E) (hr : r = 3) : AgI (D :: C :: E :: es) o r v := Or.inr ⟨2, E, rfl, ho, by rw [hr]; rfl⟩
theorem agree_ans {S : TS} {okb : Bool} {g g' : (Nat → Int) → (Nat → Int) → (Nat → Nat) → Int32 → Prop} {o : zO} {r v : Int32} (hc : CAns S okb g o) (hm : Ans S okb g' r v) (hu : okb = true → ∀ F H B F' H' B' u u', RLeast S F H B → (∀ t, t < tn S → F t = F' t ∧ H t = H' t ∧ B t = B' t) → g F H B u → g' F' H' B' u' → u = u') : AgI ["java/lang/IndexOutOfBoundsException", "java/lang/IllegalStateException"] o r v := by
  obtain ⟨hw, -⟩ := hm
  rcases hc with ⟨h1, h2⟩ | ⟨h1, h2, h3⟩ | ⟨h1, F, H, B, u, h2, h3, h4, h5⟩ <;> rcases hw with ⟨k1, k2⟩ | ⟨k1, k2, k3⟩ | ⟨k1, k2, F', H', B', k3, k4, k5⟩
  · exact AgI.e1 h2 k2
  · rw [h1] at k1; cases k1
  · rw [h1] at k1; cases k1
  · rw [h1] at k1; cases k1
  · exact AgI.e2 h3 k2
  · exact absurd (RLeast_good k3) h2
  · rw [h1] at k1; cases k1
  · exact absurd (RLeast_good h2) k3
  · exact AgI.ok h5 k2 (hu h1 F H B F' H' B' u v h2 (RL_eq h2 h3 k3 k4) h4 k5)
theorem a_firstStart {S : TS} (hn : tn S ≤ 8) {t : Int32} {o : zO} {r v : Int32} (hc : CAns S (tIs S t) (fun F _ _ v => v = iI (F t.toNatClampNeg)) o) (hm : Ans S (tIs S t) (fun F _ _ v => v = iI (F t.toNatClampNeg)) r v) : AgI ["java/lang/IndexOutOfBoundsException", "java/lang/IllegalStateException"] o r v := agree_ans hc hm (fun ht F H B F' H' B' u u' _ he g g' => by
  obtain ⟨k, hk, rfl⟩ := tIs_nI hn ht
  rw [cl (by omega)] at g g'
  rw [g, g', (he k hk).1])
theorem a_lastEnd {S : TS} (hn : tn S ≤ 8) {t : Int32} {o : zO} {r v : Int32} (hc : CAns S (tIs S t) (fun _ H _ v => v = iI (H t.toNatClampNeg)) o) (hm : Ans S (tIs S t) (fun _ H _ v => v = iI (H t.toNatClampNeg)) r v) : AgI ["java/lang/IndexOutOfBoundsException", "java/lang/IllegalStateException"] o r v := agree_ans hc hm (fun ht F H B F' H' B' u u' _ he g g' => by
  obtain ⟨k, hk, rfl⟩ := tIs_nI hn ht
  rw [cl (by omega)] at g g'
  rw [g, g', (he k hk).2.1])
theorem a_slack {S : TS} (hn : tn S ≤ 8) {t : Int32} {o : zO} {r v : Int32} (hc : CAns S (tIs S t) (fun F H _ v => v = iI (H t.toNatClampNeg - F t.toNatClampNeg - (tP S t.toNatClampNeg : Int))) o) (hm : Ans S (tIs S t) (fun F H _ v => v = iI (H t.toNatClampNeg - F t.toNatClampNeg - (tP S t.toNatClampNeg : Int))) r v) : AgI ["java/lang/IndexOutOfBoundsException", "java/lang/IllegalStateException"] o r v := agree_ans hc hm (fun ht F H B F' H' B' u u' _ he g g' => by
  obtain ⟨k, hk, rfl⟩ := tIs_nI hn ht
  rw [cl (by omega)] at g g'
  rw [g, g', (he k hk).1, (he k hk).2.1])
theorem a_precedes {S : TS} (hn : tn S ≤ 8) {a b : Int32} {o : zO} {r v : Int32} (hc : CAns S (tIs S a && tIs S b) (fun _ _ B v => v = zb ((B a.toNatClampNeg).testBit b.toNatClampNeg)) o) (hm : Ans S (tIs S a && tIs S b) (fun _ _ B v => v = zb (decide (a ≠ b) && (B a.toNatClampNeg).testBit b.toNatClampNeg)) r v) : AgI ["java/lang/IndexOutOfBoundsException", "java/lang/IllegalStateException"] o r v := agree_ans hc hm (fun ht F H B F' H' B' u u' hl he g g' => by
  obtain ⟨i, j, hi, hj, rfl, rfl⟩ := nI_a hn ht
  rw [cl (by omega), cl (by omega)] at g g'
  rw [g, g', ← (he i hi).2.2]
  by_cases e : nI i = nI j
  · have e2 : i = j := (nI_eq (by omega) (by omega)).mp e
    subst e2
    have : (B i).testBit i = false := by
      cases hb : (B i).testBit i
      · rfl
      · exact absurd (Or.inl ⟨i, hi, hb⟩) hl.2.1
    rw [this, Bool.and_false]
  · rw [decide_eq_true e, Bool.true_and])
theorem a_because {S : TS} (hn : tn S ≤ 8) {a b : Int32} {o : zO} {r v : Int32} (hc : CAns S (tIs S a && tIs S b) (fun F H _ v => ∃ q, v = iI q ∧ LsR S F H a.toNatClampNeg b.toNatClampNeg q) o) (hm : Ans S (tIs S a && tIs S b) (fun F H _ v => ∃ q, v = iI q ∧ LsR S F H a.toNatClampNeg b.toNatClampNeg q) r v) : AgI ["java/lang/IndexOutOfBoundsException", "java/lang/IllegalStateException"] o r v := agree_ans hc hm (fun _ F H B F' H' B' u u' _ he ⟨q, g1, g2⟩ ⟨q', k1, k2⟩ => by
  rw [g1, k1, (LsR_eq (fun t ht => ⟨(he t ht).1, (he t ht).2.1⟩) g2).uniq k2])
theorem a_why {S : TS} (hn : tn S ≤ 8) {a b : Int32} {o : zO} {r v : Int32} (hc : CAns S (tIs S a && tIs S b) (fun F H B v => ∃ q, v = iI q ∧ ((∃ q, LsR S F H a.toNatClampNeg b.toNatClampNeg q) → WhR S F H B a.toNatClampNeg b.toNatClampNeg q)) o) (hm : Ans S (tIs S a && tIs S b) (fun F H B v => ∃ q, v = iI q ∧ ((∃ q, LsR S F H a.toNatClampNeg b.toNatClampNeg q) → WhR S F H B a.toNatClampNeg b.toNatClampNeg q)) r v) : AgI ["java/lang/IndexOutOfBoundsException", "java/lang/IllegalStateException"] o r v := agree_ans hc hm (fun ht F H B F' H' B' u u' _ he ⟨q, g1, g2⟩ ⟨q', k1, k2⟩ => by
  obtain ⟨i, j, hi, hj, rfl, rfl⟩ := nI_a hn ht
  rw [cl (by omega), cl (by omega)] at g2 k2
  obtain ⟨p, p1, p2⟩ := g2 (LsR_ex _ _ _ _ _)
  obtain ⟨p', p1', p2'⟩ := k2 (LsR_ex _ _ _ _ _)
  have ep := (LsR_eq (fun t ht => ⟨(he t ht).1, (he t ht).2.1⟩) p1).uniq p1'
  have et : tell2 S F H i j = tell2 S F' H' i j := by
    unfold tell2
    rw [(he i hi).2.1, (he j hj).1]
  rw [g1, k1, p2, p2', ep, et, (he i hi).2.2])
end AG
