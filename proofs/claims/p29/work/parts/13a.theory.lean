/-! THE MATHEMATICS OF THE REASONING: tasks, closed states, contradictions -/
section TH1
/-- tasks: how many; machine, release, due date, duration; the set that each is given to precede -/
abbrev TS : Type := Nat × (Nat → Nat) × (Nat → Nat) × (Nat → Nat) × (Nat → Nat) × (Nat → Nat)
def tn (S : TS) : Nat := S.1
def tM (S : TS) : Nat → Nat := S.2.1
def tR (S : TS) : Nat → Nat := S.2.2.1
def tD (S : TS) : Nat → Nat := S.2.2.2.1
def tP (S : TS) : Nat → Nat := S.2.2.2.2.1
def tG (S : TS) : Nat → Nat := S.2.2.2.2.2
def bt (B : Nat → Nat) (a b : Nat) : Prop := (B a).testBit b = true
/-- the durations of a set, of the tasks below k -/
def sSum (P : Nat → Nat) (T : Nat) : Nat → Nat
  | 0 => 0
  | k + 1 => (if T.testBit k then P k else 0) + sSum P T k
def sOne (S : TS) (T : Nat) : Prop := T ≠ 0 ∧ T < 2 ^ tn S ∧ ∃ m, ∀ t, T.testBit t = true → tM S t = m
def dur (S : TS) (T : Nat) : Int := (sSum (tP S) T (tn S) : Nat)
def ins (T i : Nat) : Nat := T ||| 2 ^ i
def C1 (S : TS) (B : Nat → Nat) : Prop := ∀ a b c, a < tn S → b < tn S → c < tn S → bt B a b → bt B b c → bt B a c
def C2 (S : TS) (F L : Nat → Int) (B : Nat → Nat) : Prop := ∀ a b, a < tn S → b < tn S → a ≠ b → tM S a = tM S b → F a + (tP S a : Int) + (tP S b : Int) > L b → bt B b a
def C3a (S : TS) (F L : Nat → Int) (B : Nat → Nat) : Prop := ∀ i T, i < tn S → T.testBit i = false → T ≠ 0 → sOne S (ins T i) → (∀ x y, (ins T i).testBit x = true → T.testBit y = true → F x + dur S (ins T i) > L y) → ∀ j, T.testBit j = true → bt B j i
def C3b (S : TS) (F L : Nat → Int) (B : Nat → Nat) : Prop := ∀ i T, i < tn S → T.testBit i = false → T ≠ 0 → sOne S (ins T i) → (∀ x y, T.testBit x = true → (ins T i).testBit y = true → F x + dur S (ins T i) > L y) → ∀ j, T.testBit j = true → bt B i j
def C4a (S : TS) (F : Nat → Int) (B : Nat → Nat) : Prop := ∀ i T, i < tn S → sOne S T → (∀ j, T.testBit j = true → bt B j i) → ∃ x, T.testBit x = true ∧ F x + dur S T ≤ F i
def C4b (S : TS) (L : Nat → Int) (B : Nat → Nat) : Prop := ∀ i T, i < tn S → sOne S T → (∀ j, T.testBit j = true → bt B i j) → ∃ x, T.testBit x = true ∧ L i ≤ L x - dur S T
def C0 (S : TS) (F L : Nat → Int) (B : Nat → Nat) : Prop := ∀ t, t < tn S → (tR S t : Int) ≤ F t ∧ L t ≤ (tD S t : Int) ∧ ∀ b, b < tn S → bt (tG S) t b → bt B t b
/-- a state from which no rule tells more, and that holds what is given -/
def Cl (S : TS) (F L : Nat → Int) (B : Nat → Nat) : Prop := C0 S F L B ∧ C1 S B ∧ C2 S F L B ∧ C3a S F L B ∧ C3b S F L B ∧ C4a S F B ∧ C4b S L B
def Bad (S : TS) (F L : Nat → Int) (B : Nat → Nat) : Prop := (∃ t, t < tn S ∧ bt B t t) ∨ ∃ T, sOne S T ∧ ∀ x y, T.testBit x = true → T.testBit y = true → F x + dur S T > L y
def Le (S : TS) (F L : Nat → Int) (B : Nat → Nat) (F' L' : Nat → Int) (B' : Nat → Nat) : Prop := ∀ t, t < tn S → F t ≤ F' t ∧ L' t ≤ L t ∧ ∀ b, b < tn S → bt B t b → bt B' t b
/-- not a contradiction -/
def RGood (S : TS) : Prop := ∃ F L B, Cl S F L B ∧ ¬ Bad S F L B
/-- what the reasoning ends with -/
def RLeast (S : TS) (F L : Nat → Int) (B : Nat → Nat) : Prop := Cl S F L B ∧ ¬ Bad S F L B ∧ ∀ F' L' B', Cl S F' L' B' → Le S F L B F' L' B'
/-- told by every closed state -/
def Told (S : TS) (F L : Nat → Int) (B : Nat → Nat) : Prop := ∀ F' L' B', Cl S F' L' B' → Le S F L B F' L' B'
theorem bit_lt {T n t : Nat} (h : T < 2 ^ n) (ht : T.testBit t = true) : t < n := by
  rcases Nat.lt_or_ge t n with h1 | h1
  · exact h1
  · rw [Nat.testBit_lt_two_pow (Nat.lt_of_lt_of_le h (Nat.pow_le_pow_right (by decide) h1))] at ht
    cases ht
theorem Bad_mono {S : TS} {F L F' L' : Nat → Int} {B B' : Nat → Nat} (h : Le S F L B F' L' B') (hb : Bad S F L B) : Bad S F' L' B' := by
  rcases hb with ⟨t, ht, h1⟩ | ⟨T, hT, h1⟩
  · exact Or.inl ⟨t, ht, (h t ht).2.2 t ht h1⟩
  · refine Or.inr ⟨T, hT, fun x y hx hy => ?_⟩
    have e1 := (h x (bit_lt hT.2.1 hx)).1
    have e2 := (h y (bit_lt hT.2.1 hy)).2.1
    have := h1 x y hx hy
    omega
theorem Bad_one {S : TS} {F L : Nat → Int} {B : Nat → Nat} {t : Nat} (ht : t < tn S) (h : F t + (tP S t : Int) > L t) : Bad S F L B := by
  have hb : ∀ x, (2 ^ t).testBit x = true → x = t := by
    intro x hx
    rw [Nat.testBit_two_pow] at hx
    exact (of_decide_eq_true hx).symm
  have hs : ∀ k, sSum (tP S) (2 ^ t) k = if t < k then tP S t else 0 := by
    intro k
    induction k with
    | zero => simp [sSum]
    | succ k ih =>
      rw [sSum, ih, Nat.testBit_two_pow]
      by_cases h1 : t = k
      · subst h1; simp
      · have : ¬ (t = k) := h1
        by_cases h2 : t < k
        · have h3 : t < k + 1 := by omega
          simp [this, h2, h3]
        · have h3 : ¬ t < k + 1 := by omega
          simp [this, h2, h3]
  refine Or.inr ⟨2 ^ t, ⟨Nat.ne_of_gt (Nat.two_pow_pos t), Nat.pow_lt_pow_right (by decide) ht, tM S t, fun x hx => by rw [hb x hx]⟩, fun x y hx hy => ?_⟩
  rw [hb x hx, hb y hy]
  unfold dur
  rw [hs, if_pos ht]
  exact h
theorem RLeast_good {S : TS} {F L : Nat → Int} {B : Nat → Nat} (h : RLeast S F L B) : RGood S := ⟨F, L, B, h.1, h.2.1⟩
theorem Told_bad {S : TS} {F L : Nat → Int} {B : Nat → Nat} (h : Told S F L B) (hb : Bad S F L B) : ¬ RGood S := by
  rintro ⟨F', L', B', h1, h2⟩
  exact h2 (Bad_mono (h F' L' B' h1) hb)
theorem RLeast_le {S : TS} {F L F' L' : Nat → Int} {B B' : Nat → Nat} (h : RLeast S F L B) (h' : RLeast S F' L' B') : ∀ t, t < tn S → F t = F' t ∧ L t = L' t ∧ ∀ b, b < tn S → (bt B t b ↔ bt B' t b) := by
  intro t ht
  have e1 := h.2.2 F' L' B' h'.1 t ht
  have e2 := h'.2.2 F L B h.1 t ht
  exact ⟨Int.le_antisymm e1.1 e2.1, Int.le_antisymm e2.2.1 e1.2.1, fun b hb => ⟨e1.2.2 b hb, e2.2.2 b hb⟩⟩
/-- looser due dates, fewer given precedences: closed stays closed -/
theorem Cl_looser {S S' : TS} {F L : Nat → Int} {B : Nat → Nat} (hn : tn S' = tn S) (hM : tM S' = tM S) (hP : tP S' = tP S) (hR : ∀ t, t < tn S → tR S' t ≤ tR S t) (hD : ∀ t, t < tn S → tD S t ≤ tD S' t) (hG : ∀ a b, a < tn S → b < tn S → bt (tG S') a b → bt (tG S) a b) (h : Cl S F L B) : Cl S' F L B := by
  obtain ⟨h0, h1, h2, h3, h4, h5, h6⟩ := h
  have hone : ∀ T, sOne S' T ↔ sOne S T := by intro T; unfold sOne; rw [hn, hM]
  have hdur : ∀ T, dur S' T = dur S T := by intro T; unfold dur; rw [hn, hP]
  refine ⟨?_, ?_, ?_, ?_, ?_, ?_, ?_⟩
  · intro t ht
    rw [hn] at ht
    obtain ⟨q1, q2, q3⟩ := h0 t ht
    have := hR t ht
    have := hD t ht
    refine ⟨by omega, by omega, fun b hb hg => q3 b (by rw [← hn]; exact hb) (hG t b ht (by rw [← hn]; exact hb) hg)⟩
  · unfold C1 at *; rw [hn]; exact h1
  · unfold C2 at *; rw [hn, hM, hP]; exact h2
  · unfold C3a at *; rw [hn]; intro i T a1 a2 a3 a4 a5; exact h3 i T a1 a2 a3 ((hone _).mp a4) (fun x y b1 b2 => by have := a5 x y b1 b2; rw [hdur] at this; exact this)
  · unfold C3b at *; rw [hn]; intro i T a1 a2 a3 a4 a5; exact h4 i T a1 a2 a3 ((hone _).mp a4) (fun x y b1 b2 => by have := a5 x y b1 b2; rw [hdur] at this; exact this)
  · unfold C4a at *; rw [hn]; intro i T a1 a2 a3; obtain ⟨x, q1, q2⟩ := h5 i T a1 ((hone _).mp a2) a3; exact ⟨x, q1, by rw [hdur]; exact q2⟩
  · unfold C4b at *; rw [hn]; intro i T a1 a2 a3; obtain ⟨x, q1, q2⟩ := h6 i T a1 ((hone _).mp a2) a3; exact ⟨x, q1, by rw [hdur]; exact q2⟩
theorem Bad_looser {S S' : TS} {F L : Nat → Int} {B : Nat → Nat} (hn : tn S' = tn S) (hM : tM S' = tM S) (hP : tP S' = tP S) : Bad S' F L B ↔ Bad S F L B := by
  unfold Bad sOne dur; rw [hn, hM, hP]
theorem RGood_looser {S S' : TS} (hn : tn S' = tn S) (hM : tM S' = tM S) (hP : tP S' = tP S) (hR : ∀ t, t < tn S → tR S' t ≤ tR S t) (hD : ∀ t, t < tn S → tD S t ≤ tD S' t) (hG : ∀ a b, a < tn S → b < tn S → bt (tG S') a b → bt (tG S) a b) (h : RGood S) : RGood S' := by
  obtain ⟨F, L, B, h1, h2⟩ := h
  exact ⟨F, L, B, Cl_looser hn hM hP hR hD hG h1, fun hb => h2 ((Bad_looser hn hM hP).mp hb)⟩
end TH1
