/-! RULE 4: of the sets with one least first start, the one with all that start no earlier tells most -/
section R41
theorem pSum_mono {f : Nat → Nat} {p p' : Nat → Bool} : ∀ {k : Nat}, (∀ t, t < k → p t = true → p' t = true) → pSum f p k ≤ pSum f p' k
  | 0, _ => Nat.le_refl _
  | k + 1, h => by
    have h1 := pSum_mono (f := f) (p := p) (p' := p') (k := k) (fun t ht => h t (by omega))
    have h2 := h k (by omega)
    rw [pSum, pSum]
    by_cases hp : p k = true
    · rw [if_pos hp, if_pos (h2 hp)]; omega
    · rw [if_neg hp]; omega
theorem pSum_le {f : Nat → Nat} {p : Nat → Bool} {c : Nat} : ∀ {k : Nat}, (∀ t, t < k → f t ≤ c) → pSum f p k ≤ k * c
  | 0, _ => by simp [pSum]
  | k + 1, h => by
    have h1 := pSum_le (f := f) (p := p) (c := c) (k := k) (fun t ht => h t (by omega))
    have h2 := h k (by omega)
    rw [pSum, Nat.succ_mul]
    split <;> omega
def pF (S : TS) (F : Nat → Int) (A j u : Nat) : Bool := A.testBit u && (decide (tM S u = tM S j) && decide (F j ≤ F u))
def pL (S : TS) (L : Nat → Int) (A j u : Nat) : Bool := A.testBit u && (decide (tM S u = tM S j) && decide (L u ≤ L j))
def wkF (S : TS) (F : Nat → Int) (A j k : Nat) : Nat := pSum (tP S) (pF S F A j) k
def wkL (S : TS) (L : Nat → Int) (A j k : Nat) : Nat := pSum (tP S) (pL S L A j) k
theorem pF_iff {S : TS} {F : Nat → Int} {A j u : Nat} : pF S F A j u = true ↔ A.testBit u = true ∧ tM S u = tM S j ∧ F j ≤ F u := by unfold pF; simp
theorem pL_iff {S : TS} {L : Nat → Int} {A j u : Nat} : pL S L A j u = true ↔ A.testBit u = true ∧ tM S u = tM S j ∧ L u ≤ L j := by unfold pL; simp
theorem dur_mask {S : TS} {p : Nat → Bool} : dur S (maskF p (tn S)) = (pSum (tP S) p (tn S) : Nat) := by
  unfold dur
  rw [sSum_p]
  rw [pSum_congr (p' := p) (fun t ht => by rw [maskF_bit]; simp [ht])]
theorem mask_one {S : TS} {p : Nat → Bool} {j m : Nat} (hj : j < tn S) (hpj : p j = true) (hm : ∀ u, p u = true → tM S u = m) : sOne S (maskF p (tn S)) := by
  have hb : (maskF p (tn S)).testBit j = true := by rw [maskF_bit, hpj]; simp [hj]
  refine ⟨fun h => by rw [h] at hb; simp at hb, maskF_lt _ _, m, fun t ht => hm t ?_⟩
  rw [maskF_bit] at ht
  simp at ht
  exact ht.2
def setI (F : Nat → Int) (i : Nat) (v : Int) : Nat → Int := fun t => if t = i then v else F t
theorem setI_at {F : Nat → Int} {i : Nat} {v : Int} : setI F i v i = v := by simp [setI]
theorem setI_ne {F : Nat → Int} {i t : Nat} {v : Int} (h : t ≠ i) : setI F i v t = F t := by simp [setI, h]
theorem Gr.raise {S : TS} {F L F' L' : Nat → Int} {B B' : Nat → Nat} {ch : Bool} {i j : Nat} (h : Gr S F L B F' L' B' ch) (hB : BLt (tn S) B) (hi : i < tn S) (hj : j < tn S) (hji : (ahd (tn S) B' i).testBit j = true) (hv : F' j + (wkF S F' (ahd (tn S) B' i) j (tn S) : Int) > F' i) : Gr S F L B (setI F' i (F' j + (wkF S F' (ahd (tn S) B' i) j (tn S) : Int))) L' B' true := by
  have hpj : pF S F' (ahd (tn S) B' i) j j = true := pF_iff.mpr ⟨hji, rfl, Int.le_refl _⟩
  have hbit : ∀ x, (maskF (pF S F' (ahd (tn S) B' i) j) (tn S)).testBit x = true → pF S F' (ahd (tn S) B' i) j x = true := fun x hx => by
    rw [maskF_bit] at hx; simp at hx; exact hx.2
  have ht : Told S (setI F' i (F' j + (wkF S F' (ahd (tn S) B' i) j (tn S) : Int))) L' B' :=
    told4a h.1 hi (mask_one hj hpj (m := tM S j) (fun u hu => (pF_iff.mp hu).2.1)) (fun x hx => (ahd_bit.mp (pF_iff.mp (hbit x hx)).1).2) (fun x hx => by
      rw [dur_mask]
      have := (pF_iff.mp (hbit x hx)).2.2
      unfold wkF
      omega)
  have := h.step (q := true) hB ht (fun t ht => ⟨?_, Int.le_refl _, fun _ _ hx => hx⟩) h.2.2.1 ⟨fun _ hs => ?_, fun _ => rfl⟩
  · rw [Bool.true_or] at this; exact this
  · by_cases hti : t = i
    · subst hti; rw [setI_at]; omega
    · rw [setI_ne hti]; exact Int.le_refl _
  · have := (hs i hi).1
    rw [setI_at] at this
    omega
theorem Gr.lower {S : TS} {F L F' L' : Nat → Int} {B B' : Nat → Nat} {ch : Bool} {i j : Nat} (h : Gr S F L B F' L' B' ch) (hB : BLt (tn S) B) (hi : i < tn S) (hj : j < tn S) (hji : (B' i).testBit j = true) (hv : L' j - (wkL S L' (B' i) j (tn S) : Int) < L' i) : Gr S F L B F' (setI L' i (L' j - (wkL S L' (B' i) j (tn S) : Int))) B' true := by
  have hpj : pL S L' (B' i) j j = true := pL_iff.mpr ⟨hji, rfl, Int.le_refl _⟩
  have hbit : ∀ x, (maskF (pL S L' (B' i) j) (tn S)).testBit x = true → pL S L' (B' i) j x = true := fun x hx => by
    rw [maskF_bit] at hx; simp at hx; exact hx.2
  have ht : Told S F' (setI L' i (L' j - (wkL S L' (B' i) j (tn S) : Int))) B' :=
    told4b h.1 hi (mask_one hj hpj (m := tM S j) (fun u hu => (pL_iff.mp hu).2.1)) (fun x hx => (pL_iff.mp (hbit x hx)).1) (fun x hx => by
      rw [dur_mask]
      have := (pL_iff.mp (hbit x hx)).2.2
      unfold wkL
      omega)
  have := h.step (q := true) hB ht (fun t ht => ⟨Int.le_refl _, ?_, fun _ _ hx => hx⟩) h.2.2.1 ⟨fun _ hs => ?_, fun _ => rfl⟩
  · rw [Bool.true_or] at this; exact this
  · by_cases hti : t = i
    · subst hti; rw [setI_at]; omega
    · rw [setI_ne hti]; exact Int.le_refl _
  · have := (hs i hi).2.1
    rw [setI_at] at this
    omega
theorem C4a_of {S : TS} {F : Nat → Int} {B : Nat → Nat} (hF : ∀ t, t < tn S → F t ≤ 1000000) (h : ∀ i, i < tn S → ∀ j, j < tn S → (ahd (tn S) B i).testBit j = true → F j + (wkF S F (ahd (tn S) B i) j (tn S) : Int) ≤ F i) : C4a S F B := by
  intro i T hi hT hTi
  obtain ⟨h0, hl, m, hm⟩ := hT
  obtain ⟨x, x1, x2, x3⟩ := mnF_at (F := F) (T := T) (k := tn S) (exists_bit h0 hl) hF
  have hle : dur S T ≤ (wkF S F (ahd (tn S) B i) x (tn S) : Int) := by
    unfold dur wkF
    rw [sSum_p]
    have := pSum_mono (f := tP S) (p := fun t => T.testBit t) (p' := pF S F (ahd (tn S) B i) x) (k := tn S) (fun t ht htT => pF_iff.mpr ⟨ahd_bit.mpr ⟨ht, hTi t htT⟩, by rw [hm t htT, hm x x2], by
      rw [← x3]
      exact mnF_le ht htT⟩)
    omega
  have := h i hi x x1 (ahd_bit.mpr ⟨x1, hTi x x2⟩)
  exact ⟨x, x2, by omega⟩
theorem C4b_of {S : TS} {L : Nat → Int} {B : Nat → Nat} (hL : ∀ t, t < tn S → -1000000 ≤ L t) (h : ∀ i, i < tn S → ∀ j, j < tn S → (B i).testBit j = true → L i ≤ L j - (wkL S L (B i) j (tn S) : Int)) : C4b S L B := by
  intro i T hi hT hTi
  obtain ⟨h0, hl, m, hm⟩ := hT
  obtain ⟨x, x1, x2, x3⟩ := mxL_at (L := L) (T := T) (k := tn S) (exists_bit h0 hl) hL
  have hle : dur S T ≤ (wkL S L (B i) x (tn S) : Int) := by
    unfold dur wkL
    rw [sSum_p]
    have := pSum_mono (f := tP S) (p := fun t => T.testBit t) (p' := pL S L (B i) x) (k := tn S) (fun t ht htT => pL_iff.mpr ⟨hTi t htT, by rw [hm t htT, hm x x2], by
      rw [← x3]
      exact mxL_ge ht htT⟩)
    omega
  have := h i hi x x1 (hTi x x2)
  exact ⟨x, x2, by omega⟩
end R41
