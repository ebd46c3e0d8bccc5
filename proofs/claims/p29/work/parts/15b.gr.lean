/-! HOW A STATE GROWS -/
section GR1
def Same (n : Nat) (F L : Nat → Int) (B : Nat → Nat) (F' L' : Nat → Int) (B' : Nat → Nat) : Prop := ∀ t, t < n → F t = F' t ∧ L t = L' t ∧ B t = B' t
def BLt (n : Nat) (B : Nat → Nat) : Prop := ∀ t, t < n → B t < 2 ^ n
/-- from one state to another: told, grown, and a flag whether it did change -/
def Gr (S : TS) (F L : Nat → Int) (B : Nat → Nat) (F' L' : Nat → Int) (B' : Nat → Nat) (ch : Bool) : Prop := Told S F' L' B' ∧ Le S F L B F' L' B' ∧ BLt (tn S) B' ∧ (ch = true ↔ ¬ Same (tn S) F L B F' L' B')
theorem Same.rf (n : Nat) (F L : Nat → Int) (B : Nat → Nat) : Same n F L B F L B := fun _ _ => ⟨rfl, rfl, rfl⟩
theorem Le.rf (S : TS) (F L : Nat → Int) (B : Nat → Nat) : Le S F L B F L B := fun _ _ => ⟨Int.le_refl _, Int.le_refl _, fun _ _ h => h⟩
theorem Le.tr {S : TS} {F L F' L' F'' L'' : Nat → Int} {B B' B'' : Nat → Nat} (h : Le S F L B F' L' B') (h2 : Le S F' L' B' F'' L'' B'') : Le S F L B F'' L'' B'' := fun t ht =>
  ⟨Int.le_trans (h t ht).1 (h2 t ht).1, Int.le_trans (h2 t ht).2.1 (h t ht).2.1, fun b hb x => (h2 t ht).2.2 b hb ((h t ht).2.2 b hb x)⟩
theorem Same.mid {S : TS} {F L F' L' F'' L'' : Nat → Int} {B B' B'' : Nat → Nat} (h : Le S F L B F' L' B') (h2 : Le S F' L' B' F'' L'' B'') (hB' : BLt (tn S) B') (hB : BLt (tn S) B) (hs : Same (tn S) F L B F'' L'' B'') : Same (tn S) F L B F' L' B' ∧ Same (tn S) F' L' B' F'' L'' B'' := by
  have key : Same (tn S) F L B F' L' B' := by
    intro t ht
    obtain ⟨a1, a2, a3⟩ := h t ht
    obtain ⟨b1, b2, b3⟩ := h2 t ht
    obtain ⟨c1, c2, c3⟩ := hs t ht
    refine ⟨by omega, by omega, ?_⟩
    refine Sub.eq (fun i hi => a3 i (bit_lt (hB t ht) hi) hi) (fun i hi => ?_)
    rw [c3]
    exact b3 i (bit_lt (hB' t ht) hi) hi
  refine ⟨key, fun t ht => ?_⟩
  obtain ⟨c1, c2, c3⟩ := hs t ht
  obtain ⟨d1, d2, d3⟩ := key t ht
  exact ⟨by omega, by omega, by rw [← d3, ← c3]⟩
theorem Gr.step {S : TS} {F L F' L' F'' L'' : Nat → Int} {B B' B'' : Nat → Nat} {ch q : Bool} (h : Gr S F L B F' L' B' ch) (hB : BLt (tn S) B) (ht : Told S F'' L'' B'') (hl : Le S F' L' B' F'' L'' B'') (hB2 : BLt (tn S) B'') (hq : q = true ↔ ¬ Same (tn S) F' L' B' F'' L'' B'') : Gr S F L B F'' L'' B'' (q || ch) := by
  obtain ⟨h1, h2, h3, h4⟩ := h
  refine ⟨ht, h2.tr hl, hB2, ?_⟩
  rw [Bool.or_eq_true, h4, hq]
  constructor
  · rintro (h | h) hs
    · exact h (Same.mid h2 hl h3 hB hs).2
    · exact h (Same.mid h2 hl h3 hB hs).1
  · intro h
    by_cases h5 : Same (tn S) F L B F' L' B'
    · left
      intro h6
      exact h (fun t ht => ⟨(h5 t ht).1.trans (h6 t ht).1, (h5 t ht).2.1.trans (h6 t ht).2.1, (h5 t ht).2.2.trans (h6 t ht).2.2⟩)
    · exact Or.inr h5
theorem Gr.rf {S : TS} {F L : Nat → Int} {B : Nat → Nat} (h : Told S F L B) (hB : BLt (tn S) B) : Gr S F L B F L B false := ⟨h, Le.rf _ _ _ _, hB, ⟨fun h => (by cases h), fun h => absurd (Same.rf _ _ _ _) h⟩⟩
theorem Gr.same {S : TS} {F L F' L' : Nat → Int} {B B' : Nat → Nat} {ch : Bool} (h : Gr S F L B F' L' B' ch) (hc : ch = false) : Same (tn S) F L B F' L' B' := by
  have := h.2.2.2
  rw [hc] at this
  exact Classical.not_not.mp (fun hn => absurd (this.mpr hn) (by decide))
theorem Gr.trans {S : TS} {F L F' L' F'' L'' : Nat → Int} {B B' B'' : Nat → Nat} {ch q : Bool} (hB : BLt (tn S) B) (h : Gr S F L B F' L' B' ch) (h2 : Gr S F' L' B' F'' L'' B'' q) : Gr S F L B F'' L'' B'' (q || ch) := h.step hB h2.1 h2.2.1 h2.2.2.1 h2.2.2.2
theorem or_nd {x T : Nat} : x ||| T = x ↔ nd T x = 0 := by
  rw [nd_zero]
  constructor
  · intro h i hi
    rw [← h, Nat.testBit_or, hi]; simp
  · intro h
    exact Sub.eq (Sub_or (Sub.rf _) h) (Sub_or_l _ _)
theorem vu_at {α : Type} {f : Nat → α} {a : Nat} {v : α} : va_up f a v a = v := by simp [va_up]
theorem vu_ne {α : Type} {f : Nat → α} {a t : Nat} {v : α} (h : t ≠ a) : va_up f a v t = f t := by simp [va_up, h]
theorem Gr.put {S : TS} {F L F' L' : Nat → Int} {B B' : Nat → Nat} {ch : Bool} {a T : Nat} (h : Gr S F L B F' L' B' ch) (hB : BLt (tn S) B) (ha : a < tn S) (hT : T < 2 ^ tn S) (htd : Told S F' L' (va_up B' a (B' a ||| T))) : Gr S F L B F' L' (va_up B' a (B' a ||| T)) (decide (nd T (B' a) ≠ 0) || ch) := by
  refine h.step hB htd (fun t ht => ⟨Int.le_refl _, Int.le_refl _, fun b _ hx => ?_⟩) (fun t ht => ?_) ?_
  · unfold bt at *
    by_cases hta : t = a
    · subst hta; rw [vu_at, Nat.testBit_or, hx]; rfl
    · rw [vu_ne hta]; exact hx
  · by_cases hta : t = a
    · subst hta; rw [vu_at]; exact Nat.or_lt_two_pow (h.2.2.1 t ht) hT
    · rw [vu_ne hta]; exact h.2.2.1 t ht
  · rw [decide_eq_true_iff]
    constructor
    · intro h1 h2
      have := (h2 a ha).2.2
      rw [vu_at] at this
      exact h1 (or_nd.mp this.symm)
    · intro h1 h2
      refine h1 (fun t ht => ⟨rfl, rfl, ?_⟩)
      by_cases hta : t = a
      · subst hta; rw [vu_at, or_nd.mpr h2]
      · rw [vu_ne hta]
theorem ReR.put {n : Nat} {F L : Nat → Int} {B : Nat → Nat} {fF fL fB : Nat → Int32} (h : ∀ t, t < n → fF t = iI (F t) ∧ fL t = iI (L t) ∧ fB t = nI (B t)) (a v : Nat) : ∀ t, t < n → fF t = iI (F t) ∧ fL t = iI (L t) ∧ upd fB a (nI v) t = nI (va_up B a v t) := by
  intro t ht
  refine ⟨(h t ht).1, (h t ht).2.1, ?_⟩
  by_cases hta : t = a
  · subst hta; rw [upd_at, vu_at]
  · rw [upd_ne hta, vu_ne hta]; exact (h t ht).2.2
end GR1
