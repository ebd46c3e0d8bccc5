/-! A ROUND OF THE REASONING: what the parts of it make together -/
section RU1
theorem C1_same {S : TS} {F L F' L' : Nat → Int} {B B' : Nat → Nat} (hs : Same (tn S) F L B F' L' B') (h : C1 S B) : C1 S B' := by
  intro a b c ha hb hc hab hbc
  unfold bt at *
  rw [← (hs a ha).2.2] at hab ⊢
  rw [← (hs b hb).2.2] at hbc
  exact h a b c ha hb hc hab hbc
theorem C2_same {S : TS} {F L F' L' : Nat → Int} {B B' : Nat → Nat} (hs : Same (tn S) F L B F' L' B') (h : C2 S F L B) : C2 S F' L' B' := by
  intro a b ha hb hne hM hc
  unfold bt
  rw [← (hs b hb).2.2]
  rw [← (hs a ha).1, ← (hs b hb).2.1] at hc
  exact h a b ha hb hne hM hc
theorem C3a_same {S : TS} {F L F' L' : Nat → Int} {B B' : Nat → Nat} (hs : Same (tn S) F L B F' L' B') (h : C3a S F L B) : C3a S F' L' B' := by
  intro i T hi hiT h0 ho hc j hj
  have hb : ∀ x, (ins T i).testBit x = true → x < tn S := fun x hx => bit_lt ho.2.1 hx
  unfold bt
  rw [← (hs j (hb j (ins_bit.mpr (Or.inl hj)))).2.2]
  refine h i T hi hiT h0 ho (fun x y hx hy => ?_) j hj
  have := hc x y hx hy
  rw [← (hs x (hb x hx)).1, ← (hs y (hb y (ins_bit.mpr (Or.inl hy)))).2.1] at this
  exact this
theorem C3b_same {S : TS} {F L F' L' : Nat → Int} {B B' : Nat → Nat} (hs : Same (tn S) F L B F' L' B') (h : C3b S F L B) : C3b S F' L' B' := by
  intro i T hi hiT h0 ho hc j hj
  have hb : ∀ x, (ins T i).testBit x = true → x < tn S := fun x hx => bit_lt ho.2.1 hx
  unfold bt
  rw [← (hs i hi).2.2]
  refine h i T hi hiT h0 ho (fun x y hx hy => ?_) j hj
  have := hc x y hx hy
  rw [← (hs x (hb x (ins_bit.mpr (Or.inl hx)))).1, ← (hs y (hb y hy)).2.1] at this
  exact this
theorem C4a_same {S : TS} {F L F' L' : Nat → Int} {B B' : Nat → Nat} (hs : Same (tn S) F L B F' L' B') (h : C4a S F B) : C4a S F' B' := by
  intro i T hi hT hTi
  obtain ⟨x, x1, x2⟩ := h i T hi hT (fun j hj => by
    have := hTi j hj
    unfold bt at *
    rw [(hs j (bit_lt hT.2.1 hj)).2.2]
    exact this)
  exact ⟨x, x1, by rw [← (hs x (bit_lt hT.2.1 x1)).1, ← (hs i hi).1]; exact x2⟩
theorem C4b_same {S : TS} {F L F' L' : Nat → Int} {B B' : Nat → Nat} (hs : Same (tn S) F L B F' L' B') (h : C4b S L B) : C4b S L' B' := by
  intro i T hi hT hTi
  obtain ⟨x, x1, x2⟩ := h i T hi hT (fun j hj => by
    have := hTi j hj
    unfold bt at *
    rw [(hs i hi).2.2]
    exact this)
  exact ⟨x, x1, by rw [← (hs x (bit_lt hT.2.1 x1)).2.1, ← (hs i hi).2.1]; exact x2⟩
theorem Same.le {S : TS} {F L F' L' : Nat → Int} {B B' : Nat → Nat} (h : Same (tn S) F L B F' L' B') : Le S F L B F' L' B' := fun t ht => by
  obtain ⟨h1, h2, h3⟩ := h t ht
  exact ⟨by omega, by omega, fun b _ hb => by unfold bt at *; rw [← h3]; exact hb⟩
theorem Same.sym {n : Nat} {F L F' L' : Nat → Int} {B B' : Nat → Nat} (h : Same n F L B F' L' B') : Same n F' L' B' F L B := fun t ht => by
  obtain ⟨h1, h2, h3⟩ := h t ht
  exact ⟨h1.symm, h2.symm, h3.symm⟩
theorem Same.tr {n : Nat} {F L F' L' F'' L'' : Nat → Int} {B B' B'' : Nat → Nat} (h : Same n F L B F' L' B') (h2 : Same n F' L' B' F'' L'' B'') : Same n F L B F'' L'' B'' := fun t ht =>
  ⟨(h t ht).1.trans (h2 t ht).1, (h t ht).2.1.trans (h2 t ht).2.1, (h t ht).2.2.trans (h2 t ht).2.2⟩
theorem C0_of {S : TS} {F L : Nat → Int} {B : Nat → Nat} (h : Le S (fun t => (tR S t : Int)) (fun t => (tD S t : Int)) (tG S) F L B) : C0 S F L B := fun t ht => ⟨(h t ht).1, (h t ht).2.1, (h t ht).2.2⟩
/-! the measure -/
theorem sN_mono {f g : Nat → Nat} : ∀ {k : Nat}, (∀ t, t < k → f t ≤ g t) → sN f k ≤ sN g k
  | 0, _ => Nat.le_refl _
  | k + 1, h => by
    have h1 := sN_mono (f := f) (g := g) (k := k) (fun t ht => h t (by omega))
    have h2 := h k (by omega)
    rw [sN, sN]; omega
theorem sN_lt {f g : Nat → Nat} {t : Nat} (hft : f t < g t) : ∀ {k : Nat}, t < k → (∀ t, t < k → f t ≤ g t) → sN f k < sN g k
  | 0, ht, _ => absurd ht (Nat.not_lt_zero _)
  | k + 1, ht, h => by
    have h1 := sN_mono (f := f) (g := g) (k := k) (fun t ht => h t (by omega))
    have h2 := h k (by omega)
    rw [sN, sN]
    by_cases hk : t = k
    · subst hk; omega
    · have := sN_lt (f := f) (g := g) hft (k := k) (by omega) (fun t ht => h t (by omega))
      omega
def muT (n : Nat) (F L : Nat → Int) (B : Nat → Nat) (t : Nat) : Nat := (500 - F t).toNat + (L t + 500).toNat + (8 - pop (B t) n)
def mu (n : Nat) (F L : Nat → Int) (B : Nat → Nat) : Nat := sN (muT n F L B) n
theorem Le.sub {S : TS} {F L F' L' : Nat → Int} {B B' : Nat → Nat} (h : Le S F L B F' L' B') (hB : BLt (tn S) B) {t : Nat} (ht : t < tn S) : Sub (B t) (B' t) := fun i hi => (h t ht).2.2 i (bit_lt (hB t ht) hi) hi
theorem mu_lt {S : TS} {F L F' L' : Nat → Int} {B B' : Nat → Nat} (hn : tn S ≤ 8) (h : Le S F L B F' L' B') (hb : ∀ t, t < tn S → F t ≤ 400 ∧ 0 ≤ L t) (hB : BLt (tn S) B) (hB' : BLt (tn S) B') (hne : ¬ Same (tn S) F L B F' L' B') : mu (tn S) F' L' B' < mu (tn S) F L B := by
  have hle : ∀ t, t < tn S → muT (tn S) F' L' B' t ≤ muT (tn S) F L B t := by
    intro t ht
    have h1 := (h t ht).1
    have h2 := (h t ht).2.1
    have h3 := pop_mono (h.sub hB ht) (tn S)
    unfold muT
    omega
  have hex : ∃ t, t < tn S ∧ ¬ (F t = F' t ∧ L t = L' t ∧ B t = B' t) := by
    apply Classical.byContradiction
    intro hno
    exact hne (fun t ht => Classical.byContradiction fun hc => hno ⟨t, ht, hc⟩)
  obtain ⟨t, ht, hne⟩ := hex
  refine sN_lt (t := t) ?_ ht hle
  have h1 := (h t ht).1
  have h2 := (h t ht).2.1
  have h3 := pop_mono (h.sub hB ht) (tn S)
  have hbt := hb t ht
  have p1 := pop_le (B t) (tn S)
  have p2 := pop_le (B' t) (tn S)
  unfold muT
  by_cases hF : F t = F' t
  · by_cases hL : L t = L' t
    · have hBne : ¬ (B t = B' t) := fun hB => hne ⟨hF, hL, hB⟩
      have : ¬ Sub (B' t) (B t) := fun hs => hBne ((h.sub hB ht).eq hs)
      simp only [Sub, Classical.not_forall] at this
      obtain ⟨i, i1, i2⟩ := this
      have := pop_lt (h.sub hB ht) i1 (by simpa using i2) (tn S) (bit_lt (hB' t ht) i1)
      omega
    · omega
  · omega
theorem mu_le {n : Nat} (hn : n ≤ 8) {F L : Nat → Int} {B : Nat → Nat} (hb : ∀ t, t < n → 0 ≤ F t ∧ L t ≤ 400) : mu n F L B ≤ 12000 := by
  have h1 : sN (muT n F L B) n ≤ sN (fun _ => 1408) n := sN_mono (fun t ht => by
    have := hb t ht
    unfold muT
    omega)
  have h2 := sN_le (f := fun _ => 1408) (c := 1408) (fun _ => Nat.le_refl _) n
  have : n * 1408 ≤ 8 * 1408 := Nat.mul_le_mul_right _ hn
  unfold mu
  omega
/-- what stands in the arrays behind the reasoning -/
def ReDone (S : TS) (c : Bool) (fF fL fB fMe sF sL sW : Nat → Int32) : Prop := (c = true → ¬ RGood S) ∧ (c = false → ∃ F L B, RLeast S F L B ∧ ReR (tn S) F L B fF fL fB ∧ StB (tn S) F L B ∧ MeR S fMe ∧ SetR S F L sF sL sW)
theorem Bad_iff {S : TS} {F L : Nat → Int} {B : Nat → Nat} {p q : Bool} (hp : p = true ↔ ∃ t, t < tn S ∧ bt B t t) (hq : q = true ↔ ∃ T, sOne S T ∧ Tight S F L T) : (p || q) = true ↔ Bad S F L B := by
  rw [Bool.or_eq_true, hp, hq]
  exact Iff.rfl
end RU1
