/-! WHAT A RULE TELLS IS TOLD BY EVERY CLOSED STATE; a plan is a closed state -/
section TH2
theorem bt_up_or {B : Nat → Nat} {a T x b : Nat} (h : bt (va_up B a (B a ||| T)) x b) : bt B x b ∨ (x = a ∧ T.testBit b = true) := by
  unfold bt va_up at h
  by_cases hx : x = a
  · subst hx
    rw [if_pos rfl, Nat.testBit_or, Bool.or_eq_true] at h
    exact h.imp id (fun h => ⟨rfl, h⟩)
  · rw [if_neg hx] at h; exact Or.inl h
theorem told_or {S : TS} {F L : Nat → Int} {B : Nat → Nat} {a T : Nat} (h : Told S F L B) (hT : ∀ F' L' B', Cl S F' L' B' → Le S F L B F' L' B' → ∀ b, b < tn S → T.testBit b = true → bt B' a b) : Told S F L (va_up B a (B a ||| T)) := by
  intro F' L' B' hc t ht
  have h1 := h F' L' B' hc
  refine ⟨(h1 t ht).1, (h1 t ht).2.1, fun b hb hx => ?_⟩
  rcases bt_up_or hx with h2 | ⟨rfl, h2⟩
  · exact (h1 t ht).2.2 b hb h2
  · exact hT F' L' B' hc h1 b hb h2
theorem told1 {S : TS} {F L : Nat → Int} {B : Nat → Nat} {a b : Nat} (h : Told S F L B) (ha : a < tn S) (hb : b < tn S) (hab : bt B a b) : Told S F L (va_up B a (B a ||| B b)) :=
  told_or h (fun F' L' B' hc hl c hc9 hbc => hc.2.1 a b c ha hb hc9 ((hl a ha).2.2 b hb hab) ((hl b hb).2.2 c hc9 hbc))
theorem told2 {S : TS} {F L : Nat → Int} {B : Nat → Nat} {a b : Nat} (h : Told S F L B) (ha : a < tn S) (hb : b < tn S) (hne : a ≠ b) (hM : tM S a = tM S b) (hc : F a + (tP S a : Int) + (tP S b : Int) > L b) : Told S F L (va_up B b (B b ||| 2 ^ a)) :=
  told_or h (fun F' L' B' hcl hl c _ hbc => by
    rw [Nat.testBit_two_pow] at hbc
    have := of_decide_eq_true hbc
    subst this
    have e1 := (hl a ha).1
    have e2 := (hl b hb).2.1
    exact hcl.2.2.1 a b ha hb hne hM (by omega))
theorem told3a {S : TS} {F L : Nat → Int} {B : Nat → Nat} {i T j : Nat} (h : Told S F L B) (hi : i < tn S) (hiT : T.testBit i = false) (hT0 : T ≠ 0) (hone : sOne S (ins T i)) (hc : ∀ x y, (ins T i).testBit x = true → T.testBit y = true → F x + dur S (ins T i) > L y) (hj : T.testBit j = true) : Told S F L (va_up B j (B j ||| 2 ^ i)) :=
  told_or h (fun F' L' B' hcl hl c _ hbc => by
    rw [Nat.testBit_two_pow] at hbc
    have := of_decide_eq_true hbc
    subst this
    refine hcl.2.2.2.1 i T hi hiT hT0 hone (fun x y hx hy => ?_) j hj
    have e1 := (hl x (bit_lt hone.2.1 hx)).1
    have e2 := (hl y (bit_lt hone.2.1 (by unfold ins; rw [Nat.testBit_or, hy]; rfl))).2.1
    have := hc x y hx hy
    omega)
theorem told3b {S : TS} {F L : Nat → Int} {B : Nat → Nat} {i T : Nat} (h : Told S F L B) (hi : i < tn S) (hiT : T.testBit i = false) (hT0 : T ≠ 0) (hone : sOne S (ins T i)) (hc : ∀ x y, T.testBit x = true → (ins T i).testBit y = true → F x + dur S (ins T i) > L y) : Told S F L (va_up B i (B i ||| T)) :=
  told_or h (fun F' L' B' hcl hl c _ hbc => by
    refine hcl.2.2.2.2.1 i T hi hiT hT0 hone (fun x y hx hy => ?_) c hbc
    have e1 := (hl x (bit_lt hone.2.1 (by unfold ins; rw [Nat.testBit_or, hx]; rfl))).1
    have e2 := (hl y (bit_lt hone.2.1 hy)).2.1
    have := hc x y hx hy
    omega)
theorem told4a {S : TS} {F L : Nat → Int} {B : Nat → Nat} {i T : Nat} {v : Int} (h : Told S F L B) (hi : i < tn S) (hone : sOne S T) (hT : ∀ j, T.testBit j = true → bt B j i) (hv : ∀ x, T.testBit x = true → v ≤ F x + dur S T) : Told S (fun t => if t = i then v else F t) L B := by
  intro F' L' B' hc t ht
  have h1 := h F' L' B' hc
  refine ⟨?_, (h1 t ht).2⟩
  show (if t = i then v else F t) ≤ F' t
  by_cases hti : t = i
  · subst hti
    rw [if_pos rfl]
    obtain ⟨x, q1, q2⟩ := hc.2.2.2.2.2.1 t T hi hone (fun j hj => (h1 j (bit_lt hone.2.1 hj)).2.2 t hi (hT j hj))
    have e1 := (h1 x (bit_lt hone.2.1 q1)).1
    have := hv x q1
    omega
  · rw [if_neg hti]; exact (h1 t ht).1
theorem told4b {S : TS} {F L : Nat → Int} {B : Nat → Nat} {i T : Nat} {v : Int} (h : Told S F L B) (hi : i < tn S) (hone : sOne S T) (hT : ∀ j, T.testBit j = true → bt B i j) (hv : ∀ x, T.testBit x = true → L x - dur S T ≤ v) : Told S F (fun t => if t = i then v else L t) B := by
  intro F' L' B' hc t ht
  have h1 := h F' L' B' hc
  refine ⟨(h1 t ht).1, ?_, (h1 t ht).2.2⟩
  show L' t ≤ (if t = i then v else L t)
  by_cases hti : t = i
  · subst hti
    rw [if_pos rfl]
    obtain ⟨x, q1, q2⟩ := hc.2.2.2.2.2.2 t T hi hone (fun j hj => (h1 t hi).2.2 j (bit_lt hone.2.1 hj) (hT j hj))
    have e1 := (h1 x (bit_lt hone.2.1 q1)).2.1
    have := hv x q1
    omega
  · rw [if_neg hti]; exact (h1 t ht).2.1
theorem told0 (S : TS) : Told S (fun t => (tR S t : Int)) (fun t => (tD S t : Int)) (tG S) := fun F' L' B' hc t ht => ⟨(hc.1 t ht).1, (hc.1 t ht).2.1, (hc.1 t ht).2.2⟩
/-! plans -/
/-- a plan by starts s and places q: possible, and along the given precedences -/
def IsPlan (S : TS) (s q : Nat → Nat) : Prop := (∀ t, t < tn S → tR S t ≤ s t ∧ s t + tP S t ≤ tD S t) ∧ (∀ a b, a < tn S → b < tn S → bt (tG S) a b → q a < q b ∧ s a + tP S a ≤ s b) ∧ (∀ a b, a < tn S → b < tn S → tM S a = tM S b → q a < q b → s a + tP S a ≤ s b) ∧ (∀ a b, a < tn S → b < tn S → q a = q b → a = b)
def maskF (p : Nat → Bool) : Nat → Nat
  | 0 => 0
  | k + 1 => maskF p k ||| (if p k then 2 ^ k else 0)
theorem maskF_bit (p : Nat → Bool) : ∀ k t, (maskF p k).testBit t = (decide (t < k) && p t)
  | 0, t => by simp [maskF]
  | k + 1, t => by
    have h1 := maskF_bit p k t
    rw [maskF, Nat.testBit_or, h1]
    by_cases hk : k = t
    · subst hk
      cases hp : p k
      · simp [hp]
      · simp [hp]
    · have : (if p k = true then 2 ^ k else 0 : Nat).testBit t = false := by
        split
        · rw [Nat.testBit_two_pow]; exact decide_eq_false hk
        · simp
      rw [this, Bool.or_false]
      have : (t < k) ↔ (t < k + 1) := by omega
      simp [this]
theorem maskF_lt (p : Nat → Bool) (k : Nat) : maskF p k < 2 ^ k := by
  apply Nat.lt_pow_two_of_testBit
  intro i hi
  rw [maskF_bit]
  simp; omega
/-- a sum over the tasks below k that p takes -/
def pSum (f : Nat → Nat) (p : Nat → Bool) : Nat → Nat
  | 0 => 0
  | k + 1 => (if p k then f k else 0) + pSum f p k
theorem sSum_p (P : Nat → Nat) (T : Nat) : ∀ k, sSum P T k = pSum P (fun t => T.testBit t) k
  | 0 => rfl
  | k + 1 => by rw [sSum, pSum, sSum_p P T k]
theorem pSum_congr {f : Nat → Nat} {p p' : Nat → Bool} : ∀ {k : Nat}, (∀ t, t < k → p t = p' t) → pSum f p k = pSum f p' k
  | 0, _ => rfl
  | k + 1, h => by rw [pSum, pSum, h k (by omega), pSum_congr (fun t ht => h t (by omega))]
theorem pSum_zero {f : Nat → Nat} {p : Nat → Bool} : ∀ {k : Nat}, (∀ t, t < k → p t = false) → pSum f p k = 0
  | 0, _ => rfl
  | k + 1, h => by rw [pSum, h k (by omega), pSum_zero (fun t ht => h t (by omega))]; rfl
theorem pSum_add {f : Nat → Nat} {p p' : Nat → Bool} {z : Nat} (hz : p z = false) (hz' : p' z = true) (ho : ∀ t, t ≠ z → p' t = p t) : ∀ {k : Nat}, z < k → pSum f p' k = pSum f p k + f z
  | 0, h => absurd h (Nat.not_lt_zero _)
  | k + 1, h => by
    rw [pSum, pSum]
    by_cases hk : z = k
    · subst hk
      rw [hz, hz', pSum_congr (fun t ht => ho t (by omega))]
      simp; omega
    · rw [pSum_add hz hz' ho (by omega), ho k (fun e => hk e.symm)]
      omega
/-- tasks of one machine, in the order of their places: the first, the last, and what lies between them -/
theorem span {n : Nat} {s q P : Nat → Nat} {p : Nat → Bool} (hord : ∀ a b, a < n → b < n → p a = true → p b = true → q a < q b → s a + P a ≤ s b) (hinj : ∀ a b, a < n → b < n → p a = true → p b = true → q a = q b → a = b) : ∀ m : Nat, (∀ t, t < n → p t = true → ¬ q t < m) ∨ ∃ x y, x < n ∧ y < n ∧ p x = true ∧ p y = true ∧ q y < m ∧ (∀ t, t < n → p t = true → q t < m → q x ≤ q t ∧ q t ≤ q y) ∧ s x + pSum P (fun t => p t && decide (q t < m)) n ≤ s y + P y := by
  intro m
  induction m with
  | zero => exact Or.inl (fun t _ _ => Nat.not_lt_zero _)
  | succ m ih =>
    by_cases hz : ∃ z, z < n ∧ p z = true ∧ q z = m
    · obtain ⟨z, z1, z2, z3⟩ := hz
      right
      have hadd : pSum P (fun t => p t && decide (q t < m + 1)) n = pSum P (fun t => if t < n then (p t && decide (q t < m)) else (p t && decide (q t < m + 1))) n + P z := by
        refine pSum_add (z := z) ?_ ?_ ?_ z1
        · show (if z < n then _ else _) = false
          rw [if_pos z1]; simp; omega
        · simp [z2]; omega
        · intro t ht
          show _ = (if t < n then _ else _)
          split
          · rename_i htn
            cases hp : p t
            · simp
            · have : q t ≠ m := fun e => ht (hinj t z htn z1 hp z2 (by omega))
              simp; omega
          · rfl
      have hc : pSum P (fun t => if t < n then (p t && decide (q t < m)) else (p t && decide (q t < m + 1))) n = pSum P (fun t => p t && decide (q t < m)) n := pSum_congr (fun t ht => by rw [if_pos ht])
      rw [hc] at hadd
      rcases ih with h0 | ⟨x, y, x1, y1, x2, y2, y3, hb, hs⟩
      · refine ⟨z, z, z1, z1, z2, z2, by omega, fun t ht hp hq => ?_, ?_⟩
        · have := h0 t ht hp
          omega
        · rw [hadd, pSum_zero (fun t ht => by
            cases hp : p t
            · rfl
            · have := h0 t ht hp
              simp; omega)]
          omega
      · refine ⟨x, z, x1, z1, x2, z2, by omega, fun t ht hp hq => ?_, ?_⟩
        · rcases Nat.lt_or_ge (q t) m with h1 | h1
          · have := hb t ht hp h1; omega
          · have := hb y y1 y2 y3; omega
        · have := hord y z y1 z1 y2 z2 (by omega)
          rw [hadd]; omega
    · have hn : ∀ t, t < n → p t = true → (q t < m + 1 ↔ q t < m) := by
        intro t ht hp
        have : q t ≠ m := fun e => hz ⟨t, ht, hp, e⟩
        omega
      rcases ih with h0 | ⟨x, y, x1, y1, x2, y2, y3, hb, hs⟩
      · exact Or.inl (fun t ht hp h => h0 t ht hp ((hn t ht hp).mp h))
      · refine Or.inr ⟨x, y, x1, y1, x2, y2, by omega, fun t ht hp hq => hb t ht hp ((hn t ht hp).mp hq), ?_⟩
        have : pSum P (fun t => p t && decide (q t < m + 1)) n = pSum P (fun t => p t && decide (q t < m)) n := pSum_congr (fun t ht => by
          cases hp : p t
          · rfl
          · have := hn t ht hp
            simp [this])
        rw [this]; exact hs
theorem exists_bit {T n : Nat} (h0 : T ≠ 0) (h : T < 2 ^ n) : ∃ t, t < n ∧ T.testBit t = true := by
  obtain ⟨t, ht⟩ := Nat.exists_testBit_of_ne_zero h0
  exact ⟨t, bit_lt h ht, ht⟩
theorem qmax (n : Nat) (q : Nat → Nat) : ∃ m, ∀ t, t < n → q t < m := by
  induction n with
  | zero => exact ⟨0, fun t h => absurd h (Nat.not_lt_zero _)⟩
  | succ n ih =>
    obtain ⟨m, hm⟩ := ih
    refine ⟨m + q n + 1, fun t ht => ?_⟩
    rcases Nat.lt_or_ge t n with h | h
    · have := hm t h; omega
    · have : t = n := by omega
      subst this; omega
theorem span_set {S : TS} {s q : Nat → Nat} (h : IsPlan S s q) {T : Nat} (hT : sOne S T) : ∃ x y, T.testBit x = true ∧ T.testBit y = true ∧ (∀ t, T.testBit t = true → q x ≤ q t ∧ q t ≤ q y) ∧ (s x : Int) + dur S T ≤ (s y : Int) + (tP S y : Int) := by
  obtain ⟨m, hm⟩ := qmax (tn S) q
  obtain ⟨hT0, hTn, mm, hmm⟩ := hT
  obtain ⟨h1, h2, h3, h4⟩ := h
  rcases span (n := tn S) (s := s) (q := q) (P := tP S) (p := fun t => T.testBit t) (fun a b ha hb pa pb hq => h3 a b ha hb (by rw [hmm a pa, hmm b pb]) hq) (fun a b ha hb _ _ hq => h4 a b ha hb hq) m with h0 | ⟨x, y, x1, y1, x2, y2, y3, hb, hs⟩
  · obtain ⟨t, ht, htb⟩ := exists_bit hT0 hTn
    exact absurd (hm t ht) (h0 t ht htb)
  · refine ⟨x, y, x2, y2, fun t ht => hb t (bit_lt hTn ht) ht (hm t (bit_lt hTn ht)), ?_⟩
    have : sSum (tP S) T (tn S) = pSum (tP S) (fun t => T.testBit t && decide (q t < m)) (tn S) := by
      rw [sSum_p]
      exact pSum_congr (fun t ht => by simp [hm t ht])
    unfold dur
    rw [this]
    omega
theorem ins_bit {T i x : Nat} : (ins T i).testBit x = true ↔ T.testBit x = true ∨ x = i := by
  unfold ins
  rw [Nat.testBit_or, Nat.testBit_two_pow, Bool.or_eq_true, decide_eq_true_iff]
  exact ⟨fun h => h.imp id Eq.symm, fun h => h.imp id Eq.symm⟩
/-- a possible plan is a closed state without contradiction -/
theorem plan_closed {S : TS} {s q : Nat → Nat} (h : IsPlan S s q) : ∃ B, Cl S (fun t => (s t : Int)) (fun t => (s t + tP S t : Nat)) B ∧ ¬ Bad S (fun t => (s t : Int)) (fun t => (s t + tP S t : Nat)) B ∧ ∀ a b, a < tn S → b < tn S → bt B a b → q a < q b := by
  have h' := h
  obtain ⟨h1, h2, h3, h4⟩ := h'
  have hB : ∀ a b, bt (fun a => maskF (fun b => decide (q a < q b ∧ s a + tP S a ≤ s b)) (tn S)) a b ↔ b < tn S ∧ q a < q b ∧ s a + tP S a ≤ s b := by
    intro a b
    unfold bt
    rw [maskF_bit]
    simp
  refine ⟨fun a => maskF (fun b => decide (q a < q b ∧ s a + tP S a ≤ s b)) (tn S), ⟨?_, ?_, ?_, ?_, ?_, ?_, ?_⟩, ?_, ?_⟩
  · intro t ht
    have := h1 t ht
    refine ⟨by (try dsimp only at *); omega, by (try dsimp only at *); omega, fun b hb hg => (hB t b).mpr ⟨hb, h2 t b ht hb hg⟩⟩
  · intro a b c ha hb hc hab hbc
    have e1 := (hB a b).mp hab
    have e2 := (hB b c).mp hbc
    exact (hB a c).mpr ⟨hc, by (try dsimp only at *); omega, by (try dsimp only at *); omega⟩
  · intro a b ha hb hne hM hc
    refine (hB b a).mpr ⟨ha, ?_⟩
    have hq : ¬ q a < q b := fun hq => by
      have := h3 a b ha hb hM hq
      (try dsimp only at *); omega
    have hq2 : q b < q a := by
      rcases Nat.lt_or_ge (q b) (q a) with h5 | h5
      · exact h5
      · exact absurd (h4 a b ha hb (by (try dsimp only at *); omega)) hne
    exact ⟨hq2, h3 b a hb ha hM.symm hq2⟩
  · intro i T hi hiT hT0 hone hc j hj
    obtain ⟨x, y, x1, y1, hb, hs⟩ := span_set h hone
    have hyi : y = i := by
      rcases (ins_bit).mp y1 with h5 | h5
      · have := hc x y x1 h5
        (try dsimp only at *); omega
      · exact h5
    subst hyi
    have hjl := bit_lt hone.2.1 (ins_bit.mpr (Or.inl hj))
    have hle := (hb j (ins_bit.mpr (Or.inl hj))).2
    have hlt : q j < q y := by
      rcases Nat.lt_or_ge (q j) (q y) with h5 | h5
      · exact h5
      · have := h4 j y hjl hi (by (try dsimp only at *); omega)
        subst this
        rw [hiT] at hj; cases hj
    obtain ⟨_, _, mm, hmm⟩ := hone
    exact (hB j y).mpr ⟨hi, hlt, h3 j y hjl hi (by rw [hmm j (ins_bit.mpr (Or.inl hj)), hmm y y1]) hlt⟩
  · intro i T hi hiT hT0 hone hc j hj
    obtain ⟨x, y, x1, y1, hb, hs⟩ := span_set h hone
    have hxi : x = i := by
      rcases (ins_bit).mp x1 with h5 | h5
      · have := hc x y h5 y1
        (try dsimp only at *); omega
      · exact h5
    subst hxi
    have hjl := bit_lt hone.2.1 (ins_bit.mpr (Or.inl hj))
    have hle := (hb j (ins_bit.mpr (Or.inl hj))).1
    have hlt : q x < q j := by
      rcases Nat.lt_or_ge (q x) (q j) with h5 | h5
      · exact h5
      · have := h4 x j hi hjl (by (try dsimp only at *); omega)
        subst this
        rw [hiT] at hj; cases hj
    obtain ⟨_, _, mm, hmm⟩ := hone
    exact (hB x j).mpr ⟨hjl, hlt, h3 x j hi hjl (by rw [hmm j (ins_bit.mpr (Or.inl hj)), hmm x x1]) hlt⟩
  · intro i T hi hone hT
    obtain ⟨x, y, x1, y1, hb, hs⟩ := span_set h hone
    have := (hB y i).mp (hT y y1)
    exact ⟨x, x1, by (try dsimp only at *); omega⟩
  · intro i T hi hone hT
    obtain ⟨x, y, x1, y1, hb, hs⟩ := span_set h hone
    have := (hB i x).mp (hT x x1)
    exact ⟨y, y1, by (try dsimp only at *); omega⟩
  · rintro (⟨t, ht, hb⟩ | ⟨T, hT, hc⟩)
    · have := (hB t t).mp hb
      (try dsimp only at *); omega
    · obtain ⟨x, y, x1, y1, hb, hs⟩ := span_set h hT
      have := hc x y x1 y1
      (try dsimp only at *); omega
  · intro a b ha hb hab
    exact ((hB a b).mp hab).2.1
/-- what the reasoning ends with bounds every possible plan -/
theorem plan_bound {S : TS} {F L : Nat → Int} {B : Nat → Nat} (hl : Told S F L B) {s q : Nat → Nat} (h : IsPlan S s q) : ∀ t, t < tn S → F t ≤ (s t : Int) ∧ (s t : Int) + (tP S t : Int) ≤ L t ∧ ∀ b, b < tn S → bt B t b → q t < q b := by
  obtain ⟨B', h1, -, h3⟩ := plan_closed h
  intro t ht
  obtain ⟨e1, e2, e3⟩ := hl _ _ _ h1 t ht
  exact ⟨e1, by (try dsimp only at *); omega, fun b hb hx => h3 t b ht hb (e3 b hb hx)⟩
theorem plan_good {S : TS} {s q : Nat → Nat} (h : IsPlan S s q) : RGood S := by
  obtain ⟨B', h1, h2, -⟩ := plan_closed h
  exact ⟨_, _, _, h1, h2⟩
end TH2
