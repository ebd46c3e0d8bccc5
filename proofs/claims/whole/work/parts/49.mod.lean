-- pics: zMo
/-! DRAWN ROWS -/
section DW
def jN (n : Nat) : Int64 := Int64.ofInt (n : Int)
theorem jN_mul (a b : Nat) : jN a * jN b = jN (a * b) := by
  unfold jN
  rw [← Int64.ofInt_mul, Int.natCast_mul]
theorem jN_add (a b : Nat) : jN a + jN b = jN (a + b) := by
  unfold jN
  rw [← Int64.ofInt_add, Int.natCast_add]
theorem jN_sub {a b : Nat} (h : b ≤ a) : jN a - jN b = jN (a - b) := by
  unfold jN
  rw [← Int64.ofInt_sub]
  congr 1
  omega
theorem jN_div {a b : Nat} (ha : a < 2 ^ 63) (hb : b < 2 ^ 63) : jN a / jN b = jN (a / b) := by
  unfold jN
  have e1 : Int64.minValue.toInt = -2 ^ 63 := by decide
  have e2 : Int64.maxValue.toInt = 2 ^ 63 - 1 := by decide
  rw [← Int64.ofInt_tdiv (by rw [e1]; omega) (by rw [e2]; omega) (by rw [e1]; omega) (by rw [e2]; omega)]
  congr 1
theorem jN_rem {a b : Nat} (ha : a < 2 ^ 63) (hb : b < 2 ^ 63) : jN a - jN a / jN b * jN b = jN (a % b) := by
  rw [jN_div ha hb, jN_mul, jN_sub (Nat.div_mul_le_self a b)]
  congr 1
  have := Nat.div_add_mod a b
  rw [Nat.mul_comm] at this
  omega
theorem jN_i {n : Nat} (h : n < 2 ^ 31) : (nI n).toInt64 = jN n := by
  rw [iI_n]
  have e1 : Int32.minValue.toInt = -2 ^ 31 := by decide
  have e2 : Int32.maxValue.toInt = 2 ^ 31 - 1 := by decide
  exact Int32.toInt64_ofInt (by rw [e1]; omega) (by rw [e2]; omega)
theorem jN_b (n : Nat) : (jN n).toInt32 = nI n := by
  rw [iI_n]
  exact Int64.toInt32_ofInt
theorem jN_inj {a b : Nat} (ha : a < 2 ^ 63) (hb : b < 2 ^ 63) : jN a = jN b ↔ a = b := by
  constructor
  · intro h
    have h := congrArg Int64.toInt h
    unfold jN at h
    rw [Int64.toInt_ofInt_of_le (by omega) (by omega), Int64.toInt_ofInt_of_le (by omega) (by omega)] at h
    omega
  · intro h; rw [h]
theorem jN_ne {a : Nat} (h : 0 < a) (h2 : a < 2 ^ 63) : ¬ jN a = 0 := by
  rw [show (0 : Int64) = jN 0 from rfl, jN_inj h2 (by decide)]
  omega
def dnN (x : Nat) : Nat := (x * 1103515245 + 12345) % 2147483648
theorem dnN_lt (x : Nat) : dnN x < 2 ^ 31 := Nat.mod_lt _ (by decide)
theorem dnN_j {x : Nat} (h : x < 2 ^ 31) : (jN x * 1103515245 + 12345) - (jN x * 1103515245 + 12345) / 2147483648 * 2147483648 = jN (dnN x) := by
  rw [show (1103515245 : Int64) = jN 1103515245 from rfl, show (12345 : Int64) = jN 12345 from rfl, show (2147483648 : Int64) = jN 2147483648 from rfl, jN_mul, jN_add, jN_rem (by omega) (by decide)]
  rfl
/-- the task that q takes behind i others that it takes -/
def pickN (q : Nat → Bool) (i : Nat) : Nat → Nat
  | 0 => 0
  | k + 1 => if q k = true ∧ cB q k = i then k else pickN q i k
theorem cB_step {q : Nat → Bool} {k : Nat} : cB q (k + 1) = cB q k + (if q k then 1 else 0) := by
  rw [cB]
theorem cB_up {q : Nat → Bool} {t : Nat} : ∀ {k : Nat}, t ≤ k → cB q t ≤ cB q k
  | 0, h => by
    have : t = 0 := by omega
    subst this; exact Nat.le_refl _
  | k + 1, h => by
    by_cases e : t = k + 1
    · subst e; exact Nat.le_refl _
    · have := cB_up (q := q) (t := t) (k := k) (by omega)
      rw [cB_step]; omega
theorem cB_lt {q : Nat → Bool} {t k : Nat} (h : t < k) (hq : q t = true) : cB q t + 1 ≤ cB q k := by
  have := cB_up (q := q) (t := t + 1) (k := k) h
  rw [cB_step, if_pos hq] at this
  exact this
theorem pick_at {q : Nat → Bool} {i t : Nat} (hq : q t = true) (hi : cB q t = i) : ∀ {k : Nat}, t < k → pickN q i k = t
  | 0, h => absurd h (Nat.not_lt_zero _)
  | k + 1, h => by
    rw [pickN]
    by_cases e : t = k
    · subst e; rw [if_pos ⟨hq, hi⟩]
    · have h1 := cB_lt (q := q) (t := t) (k := k) (by omega) hq
      rw [if_neg (by rintro ⟨-, h2⟩; omega)]
      exact pick_at hq hi (by omega)
theorem pick_ok {q : Nat → Bool} {i : Nat} : ∀ {k : Nat}, i < cB q k → pickN q i k < k ∧ q (pickN q i k) = true ∧ cB q (pickN q i k) = i
  | 0, h => by rw [cB] at h; exact absurd h (Nat.not_lt_zero _)
  | k + 1, h => by
    rw [pickN]
    by_cases e : q k = true ∧ cB q k = i
    · rw [if_pos e]; exact ⟨by omega, e.1, e.2⟩
    · rw [if_neg e]
      have : i < cB q k := by
        rw [cB_step] at h
        by_cases e1 : q k = true
        · rw [if_pos e1] at h
          have : cB q k ≠ i := fun e2 => e ⟨e1, e2⟩
          omega
        · rw [if_neg e1] at h; omega
      obtain ⟨a, b, c⟩ := pick_ok this
      exact ⟨by omega, b, c⟩
def dw (S : TS) (x : Nat) : Nat → Nat × (Nat → Nat)
  | 0 => (x, fun _ => 0)
  | k + 1 => (dnN (dw S x k).1, va_up (dw S x k).2 k (pickN (csB S (rs (dw S x k).2 k)) (dnN (dw S x k).1 / 65536 % cB (csB S (rs (dw S x k).2 k)) (tn S)) (tn S)))
def dMs (S : TS) (s : Nat) : Nat → Nat × Int
  | 0 => (s, -1)
  | k + 1 => ((dw S (dMs S s k).1 (tn S)).1, if planR S (dw S (dMs S s k).1 (tn S)).2 ≠ -1 ∧ ((dMs S s k).2 = -1 ∨ planR S (dw S (dMs S s k).1 (tn S)).2 < (dMs S s k).2) then planR S (dw S (dMs S s k).1 (tn S)).2 else (dMs S s k).2)
theorem pop_or {a i : Nat} : ∀ k, pop (a ||| 2 ^ i) k ≤ pop a k + (if i < k then 1 else 0)
  | 0 => by simp [pop]
  | k + 1 => by
    have ih := pop_or (a := a) (i := i) k
    rw [pop, pop, Nat.testBit_or, Nat.testBit_two_pow]
    by_cases e : i = k
    · subst e
      rw [if_neg (Nat.lt_irrefl _)] at ih
      rw [if_pos (Nat.lt_succ_self _)]
      simp only [decide_true, Bool.or_true, if_true]
      omega
    · rw [decide_eq_false e, Bool.or_false]
      by_cases e2 : i < k
      · rw [if_pos e2] at ih; rw [if_pos (show i < k + 1 by omega)]; omega
      · rw [if_neg e2] at ih; rw [if_neg (show ¬ i < k + 1 by omega)]; omega
theorem rs_pop {ρ : Nat → Nat} {n : Nat} : ∀ k, pop (rs ρ k) n ≤ k
  | 0 => by
    have : ∀ n, pop 0 n = 0 := by
      intro n
      induction n with
      | zero => rfl
      | succ n ih => rw [pop, ih, Nat.zero_testBit]; rfl
    rw [rs, this]
    exact Nat.le_refl _
  | k + 1 => by
    have h1 := rs_pop (ρ := ρ) (n := n) k
    have h2 := pop_or (a := rs ρ k) (i := ρ k) n
    rw [rs]
    split at h2 <;> omega
theorem pop_all {a : Nat} : ∀ n, (∀ t, t < n → a.testBit t = true) → pop a n = n
  | 0, _ => rfl
  | n + 1, h => by rw [pop, pop_all n (fun t ht => h t (by omega)), if_pos (h n (by omega))]
theorem tA_bit {S : TS} {t i : Nat} : (tA S t).testBit i = true ↔ i < tn S ∧ (tG S i).testBit t = true := by
  rw [tA, maskF_bit, Bool.and_eq_true, decide_eq_true_iff]
/-- there is always a task that can be next -/
theorem ready_pos {S : TS} {mc : Nat} (h : Fine S mc) {ρ : Nat → Nat} {k : Nat} (hk : k < tn S) : 1 ≤ cB (csB S (rs ρ k)) (tn S) := by
  obtain ⟨hok, q, hq⟩ := h
  have h1 : ∃ t, t < tn S ∧ (rs ρ k).testBit t = false := by
    apply Classical.byContradiction
    intro hc
    have h2 := rs_pop (ρ := ρ) (n := tn S) k
    rw [pop_all (tn S) (fun t ht => by
      cases e : (rs ρ k).testBit t
      · exact absurd ⟨t, ht, e⟩ hc
      · rfl)] at h2
    omega
  have h3 : ∀ m, (∃ t, t < tn S ∧ (rs ρ k).testBit t = false ∧ q t ≤ m) → ∃ t, t < tn S ∧ csB S (rs ρ k) t = true := by
    intro m
    induction m with
    | zero =>
      rintro ⟨t, ht, hb, hm⟩
      refine ⟨t, ht, ?_⟩
      rw [csB, hb, decide_eq_true (nd_zero.mpr (fun i hi => ?_))]
      · rfl
      · obtain ⟨g1, g2⟩ := tA_bit.mp hi
        have := hq i t g1 ht g2
        omega
    | succ m ih =>
      rintro ⟨t, ht, hb, hm⟩
      by_cases e : nd (tA S t) (rs ρ k) = 0
      · exact ⟨t, ht, by rw [csB, hb, decide_eq_true e]; rfl⟩
      · have : ∃ i, (tA S t).testBit i = true ∧ (rs ρ k).testBit i = false := by
          apply Classical.byContradiction
          intro hc
          refine e (nd_zero.mpr (fun i hi => ?_))
          cases e2 : (rs ρ k).testBit i
          · exact absurd ⟨i, hi, e2⟩ hc
          · rfl
        obtain ⟨i, hi, hb2⟩ := this
        obtain ⟨g1, g2⟩ := tA_bit.mp hi
        have := hq i t g1 ht g2
        exact ih ⟨i, g1, hb2, by omega⟩
  obtain ⟨t, ht, hb⟩ := h1
  obtain ⟨u, hu, hc⟩ := h3 (q t) ⟨t, ht, hb, Nat.le_refl _⟩
  have := cB_lt hu hc
  omega
theorem dw_lt {S : TS} {x : Nat} (hx : x < 2 ^ 31) : ∀ k, (dw S x k).1 < 2 ^ 31
  | 0 => hx
  | k + 1 => dnN_lt _
theorem dw_pick {S : TS} {mc x : Nat} (h : Fine S mc) {k : Nat} (hk : k < tn S) : dnN (dw S x k).1 / 65536 % cB (csB S (rs (dw S x k).2 k)) (tn S) < cB (csB S (rs (dw S x k).2 k)) (tn S) := Nat.mod_lt _ (ready_pos h hk)
theorem dw_cons {S : TS} {mc x : Nat} (h : Fine S mc) : ∀ k, k ≤ tn S → ConsK S (dw S x k).2 k
  | 0, _ => fun j hj => absurd hj (Nat.not_lt_zero _)
  | k + 1, hk => by
    have ih := dw_cons (x := x) h k (by omega)
    obtain ⟨p1, p2, -⟩ := pick_ok (dw_pick (x := x) h (k := k) (by omega))
    intro j hj
    have e1 : rs (dw S x (k + 1)).2 j = rs (dw S x k).2 j := rs_congr (fun i hi => by rw [dw]; exact vu_ne (by omega))
    rw [e1]
    by_cases e : j = k
    · subst e
      rw [show (dw S x (j + 1)).2 j = pickN (csB S (rs (dw S x j).2 j)) (dnN (dw S x j).1 / 65536 % cB (csB S (rs (dw S x j).2 j)) (tn S)) (tn S) from by rw [dw]; exact vu_at]
      exact ⟨p1, p2⟩
    · rw [show (dw S x (k + 1)).2 j = (dw S x k).2 j from by rw [dw]; exact vu_ne e]
      exact ih j (by omega)
theorem dMs_lt {S : TS} {s : Nat} (hs : s < 2 ^ 31) : ∀ k, (dMs S s k).1 < 2 ^ 31
  | 0 => hs
  | k + 1 => by rw [dMs]; exact dw_lt (dMs_lt hs k) _
theorem planR_b {S : TS} {mcN : Nat} (hok : TSok S mcN) {ρ : Nat → Nat} (hr : ∀ j, j < tn S → ρ j < tn S) : -1 ≤ planR S ρ ∧ planR S ρ ≤ 400 := by
  unfold planR
  split
  · next hb => have := planR_le hok hb hr; omega
  · omega
theorem dMs_b {S : TS} {mc s : Nat} (h : Fine S mc) : ∀ k, -1 ≤ (dMs S s k).2 ∧ (dMs S s k).2 ≤ 400
  | 0 => by rw [dMs]; exact ⟨by show (-1 : Int) ≤ -1; omega, by show (-1 : Int) ≤ 400; omega⟩
  | k + 1 => by
    have ih := dMs_b (s := s) h k
    rw [dMs]
    dsimp only
    split
    · exact planR_b h.1 (fun j hj => (dw_cons h _ (Nat.le_refl _) j hj).1)
    · exact ih
variable {l : Launch} {th mc n sv ty ch ixa wr om : Int32} {db : Int64} {fm fr fd fp fg fs ftx fF fL fA sF sL sW fO rw br st bs du fo : Nat → Int32}
set_option maxRecDepth 100000 in
theorem m_drawRow (hfl : l.stackTraces = false) {S : TS} {mcN x : Nat} (hF : Fine S mcN) (hG : ∀ t, t < tn S → fg t = nI (tG S t)) (hx : x < 2 ^ 31) : Can l yX8_drawRow wsX8_drawRow 3 0 0 [.ref 0] (zMo th mc (nI (tn S)) sv ty ch ixa wr om (jN x) fm fr fd fp fg fs ftx fF fL fA sF sL sW fO rw br st bs du fo) (fun o w' => ∃ rw', o = .inl none ∧ w' = (zMo th mc (nI (tn S)) sv ty ch ixa wr om (jN (dw S x (tn S)).1) fm fr fd fp fg fs ftx fF fL fA sF sL sW fO rw' br st bs du fo) ∧ ∀ j, j < tn S → rw' j = nI ((dw S x (tn S)).2 j)) := by
  have hok := hF.1
  have hn := hok.1
  refine zm_X8_drawRow hfl ?_
  intro K wk b0 b2 b10 b14 b22 b32 b36 b37 b45 b84 b93 b103 b107 b112 b114 b119 b125 b139
  have outer : ∀ k, k ≤ tn S → ∀ rw' : Nat → Int32, (∀ j, j < k → rw' j = nI ((dw S x k).2 j)) → K 2 [some (.ref 0), some (.int (nI k)), none, none, none, none] [] (zMo th mc (nI (tn S)) sv ty ch ixa wr om (jN (dw S x k).1) fm fr fd fp fg fs ftx fF fL fA sF sL sW fO rw' br st bs du fo) 0 0 := by
    refine zdown _ _ (fun rw' hrw => b2 _ _ _ _ _ ?_) (fun k hk ih rw' hrw => b2 _ _ _ _ _ ?_)
    · simp only [zwp, oJump, oPush, oILoad, oALoad, oLLoad, oDLoad, oIStore, oAStore, oLStore, oDStore, oIinc, o_iadd, o_isub, o_imul, o_iand, o_ior, o_ixor, o_ishl, o_ishr, o_iushr, o_idiv, o_ladd, o_lsub, o_lmul, o_ldiv, o_lrem, o_ddiv, o_i2l, o_l2i, o_i2d, o_i2b, o_lcmp, o_dcmp, o_dup, o_dup2, o_pop, o_ic_eq, o_ic_ne, o_ic_lt, o_ic_ge, o_ic_gt, o_ic_le, o_if_eq, o_if_ne, o_if_lt, o_if_ge, o_if_gt, o_if_le, o_goto, oSwitch, zsw, oGetf, oPutI, oPutZ, oPutJ, oPutA, oIald, oLald, oDald, oBald, oZald, oIast, oLast, oDast, oBast, oZast, oAald, oAast, o_mmax, o_mmin, oCall, oCallM, oCallMV, oIret, oZret, oLret, oDret, oVret, oThrow, zMO, zThru, zpop, zShort, zRecv, zg, zok1, List.set_cons_zero, List.set_cons_succ, List.getElem?_cons_zero, List.getElem?_cons_succ, List.length_cons, List.length_nil, List.length_set, Option.toList_some, Option.toList_none, List.cons_append, List.nil_append, Value.category, true_and, and_true, Nat.zero_add, Nat.add_zero, Nat.le_refl, Nat.reduceAdd, Nat.reduceLT, zMo]
      refine ⟨fun _ => b139 _ _ _ _ _ ?_, fun h => absurd (Int32.le_refl _) h⟩
      simp only [zwp, oJump, oPush, oILoad, oALoad, oLLoad, oDLoad, oIStore, oAStore, oLStore, oDStore, oIinc, o_iadd, o_isub, o_imul, o_iand, o_ior, o_ixor, o_ishl, o_ishr, o_iushr, o_idiv, o_ladd, o_lsub, o_lmul, o_ldiv, o_lrem, o_ddiv, o_i2l, o_l2i, o_i2d, o_i2b, o_lcmp, o_dcmp, o_dup, o_dup2, o_pop, o_ic_eq, o_ic_ne, o_ic_lt, o_ic_ge, o_ic_gt, o_ic_le, o_if_eq, o_if_ne, o_if_lt, o_if_ge, o_if_gt, o_if_le, o_goto, oSwitch, zsw, oGetf, oPutI, oPutZ, oPutJ, oPutA, oIald, oLald, oDald, oBald, oZald, oIast, oLast, oDast, oBast, oZast, oAald, oAast, o_mmax, o_mmin, oCall, oCallM, oCallMV, oIret, oZret, oLret, oDret, oVret, oThrow, zMO, zThru, zpop, zShort, zRecv, zg, zok1, List.set_cons_zero, List.set_cons_succ, List.getElem?_cons_zero, List.getElem?_cons_succ, List.length_cons, List.length_nil, List.length_set, Option.toList_some, Option.toList_none, List.cons_append, List.nil_append, Value.category, true_and, and_true, Nat.zero_add, Nat.add_zero, Nat.le_refl, Nat.reduceAdd, Nat.reduceLT, zMo]
      exact ⟨rw', rfl, hrw⟩
    · simp only [zwp, oJump, oPush, oILoad, oALoad, oLLoad, oDLoad, oIStore, oAStore, oLStore, oDStore, oIinc, o_iadd, o_isub, o_imul, o_iand, o_ior, o_ixor, o_ishl, o_ishr, o_iushr, o_idiv, o_ladd, o_lsub, o_lmul, o_ldiv, o_lrem, o_ddiv, o_i2l, o_l2i, o_i2d, o_i2b, o_lcmp, o_dcmp, o_dup, o_dup2, o_pop, o_ic_eq, o_ic_ne, o_ic_lt, o_ic_ge, o_ic_gt, o_ic_le, o_if_eq, o_if_ne, o_if_lt, o_if_ge, o_if_gt, o_if_le, o_goto, oSwitch, zsw, oGetf, oPutI, oPutZ, oPutJ, oPutA, oIald, oLald, oDald, oBald, oZald, oIast, oLast, oDast, oBast, oZast, oAald, oAast, o_mmax, o_mmin, oCall, oCallM, oCallMV, oIret, oZret, oLret, oDret, oVret, oThrow, zMO, zThru, zpop, zShort, zRecv, zg, zok1, List.set_cons_zero, List.set_cons_succ, List.getElem?_cons_zero, List.getElem?_cons_succ, List.length_cons, List.length_nil, List.length_set, Option.toList_some, Option.toList_none, List.cons_append, List.nil_append, Value.category, true_and, and_true, Nat.zero_add, Nat.add_zero, Nat.le_refl, Nat.reduceAdd, Nat.reduceLT, zMo]
      refine ⟨fun h => absurd ((nI_leI (by omega) (by omega)).mp h) (by omega), fun _ => b10 _ _ _ _ _ ?_⟩
      have hC := dw_cons (x := x) hF k (by omega)
      have hlt := dw_lt (S := S) hx k
      have hp := dw_pick (x := x) hF hk
      have hpos := ready_pos hF (ρ := (dw S x k).2) hk
      rw [dw] at ih
      dsimp only at ih
      obtain ⟨X, hX⟩ : ∃ X, dw S x k = X := ⟨_, rfl⟩
      rw [hX] at ih hrw hC hlt hp hpos ⊢
      obtain ⟨q, hq⟩ : ∃ q, csB S (rs X.2 k) = q := ⟨_, rfl⟩
      rw [hq] at ih hp hpos
      have hrow : ∀ j, j < k → rw' j = nI (X.2 j) ∧ X.2 j < 8 := fun j hj => ⟨hrw j hj, by have := (hC j hj).1; omega⟩
      have hm8 := cB_le q (tn S)
      have hx' := dnN_lt X.1
      have hdn := dnN_j hlt
      obtain ⟨y, hy⟩ : ∃ y, dnN X.1 = y := ⟨_, rfl⟩
      rw [hy] at ih hp hx' hdn
      simp only [zwp, oJump, oPush, oILoad, oALoad, oLLoad, oDLoad, oIStore, oAStore, oLStore, oDStore, oIinc, o_iadd, o_isub, o_imul, o_iand, o_ior, o_ixor, o_ishl, o_ishr, o_iushr, o_idiv, o_ladd, o_lsub, o_lmul, o_ldiv, o_lrem, o_ddiv, o_i2l, o_l2i, o_i2d, o_i2b, o_lcmp, o_dcmp, o_dup, o_dup2, o_pop, o_ic_eq, o_ic_ne, o_ic_lt, o_ic_ge, o_ic_gt, o_ic_le, o_if_eq, o_if_ne, o_if_lt, o_if_ge, o_if_gt, o_if_le, o_goto, oSwitch, zsw, oGetf, oPutI, oPutZ, oPutJ, oPutA, oIald, oLald, oDald, oBald, oZald, oIast, oLast, oDast, oBast, oZast, oAald, oAast, o_mmax, o_mmin, oCall, oCallM, oCallMV, oIret, oZret, oLret, oDret, oVret, oThrow, zMO, zThru, zpop, zShort, zRecv, zg, zok1, List.set_cons_zero, List.set_cons_succ, List.getElem?_cons_zero, List.getElem?_cons_succ, List.length_cons, List.length_nil, List.length_set, Option.toList_some, Option.toList_none, List.cons_append, List.nil_append, Value.category, true_and, and_true, Nat.zero_add, Nat.add_zero, Nat.le_refl, Nat.reduceAdd, Nat.reduceLT, zMo]
      have choose : ∀ t, t ≤ tn S → K 84 [some (.ref 0), some (.int (nI k)), none, some (.int (iI (((y / 65536 % cB q (tn S) : Nat) : Int) - (cB q t : Nat)))), some (.int (iI (if y / 65536 % cB q (tn S) < cB q t then ((pickN q (y / 65536 % cB q (tn S)) t : Nat) : Int) else -1))), some (.int (nI t))] [] (zMo th mc (nI (tn S)) sv ty ch ixa wr om (jN (y)) fm fr fd fp fg fs ftx fF fL fA sF sL sW fO rw' br st bs du fo) 0 0 := by
        obtain ⟨i, hi⟩ : ∃ i, y / 65536 % cB q (tn S) = i := ⟨_, rfl⟩
        rw [hi] at hp ih ⊢
        have vk := vin (n := k) (N := 8) (by omega) (by decide)
        refine zdown _ _ (b84 _ _ _ _ _ ?_) (fun t ht iht => b84 _ _ _ _ _ ?_)
        · simp only [zwp, oJump, oPush, oILoad, oALoad, oLLoad, oDLoad, oIStore, oAStore, oLStore, oDStore, oIinc, o_iadd, o_isub, o_imul, o_iand, o_ior, o_ixor, o_ishl, o_ishr, o_iushr, o_idiv, o_ladd, o_lsub, o_lmul, o_ldiv, o_lrem, o_ddiv, o_i2l, o_l2i, o_i2d, o_i2b, o_lcmp, o_dcmp, o_dup, o_dup2, o_pop, o_ic_eq, o_ic_ne, o_ic_lt, o_ic_ge, o_ic_gt, o_ic_le, o_if_eq, o_if_ne, o_if_lt, o_if_ge, o_if_gt, o_if_le, o_goto, oSwitch, zsw, oGetf, oPutI, oPutZ, oPutJ, oPutA, oIald, oLald, oDald, oBald, oZald, oIast, oLast, oDast, oBast, oZast, oAald, oAast, o_mmax, o_mmin, oCall, oCallM, oCallMV, oIret, oZret, oLret, oDret, oVret, oThrow, zMO, zThru, zpop, zShort, zRecv, zg, zok1, List.set_cons_zero, List.set_cons_succ, List.getElem?_cons_zero, List.getElem?_cons_succ, List.length_cons, List.length_nil, List.length_set, Option.toList_some, Option.toList_none, List.cons_append, List.nil_append, Value.category, true_and, and_true, Nat.zero_add, Nat.add_zero, Nat.le_refl, Nat.reduceAdd, Nat.reduceLT, zMo]
          rw [if_pos hp]
          refine ⟨fun _ => b125 _ _ _ _ _ ?_, fun h => absurd (Int32.le_refl _) h⟩
          simp only [zwp, oJump, oPush, oILoad, oALoad, oLLoad, oDLoad, oIStore, oAStore, oLStore, oDStore, oIinc, o_iadd, o_isub, o_imul, o_iand, o_ior, o_ixor, o_ishl, o_ishr, o_iushr, o_idiv, o_ladd, o_lsub, o_lmul, o_ldiv, o_lrem, o_ddiv, o_i2l, o_l2i, o_i2d, o_i2b, o_lcmp, o_dcmp, o_dup, o_dup2, o_pop, o_ic_eq, o_ic_ne, o_ic_lt, o_ic_ge, o_ic_gt, o_ic_le, o_if_eq, o_if_ne, o_if_lt, o_if_ge, o_if_gt, o_if_le, o_goto, oSwitch, zsw, oGetf, oPutI, oPutZ, oPutJ, oPutA, oIald, oLald, oDald, oBald, oZald, oIast, oLast, oDast, oBast, oZast, oAald, oAast, o_mmax, o_mmin, oCall, oCallM, oCallMV, oIret, oZret, oLret, oDret, oVret, oThrow, zMO, zThru, zpop, zShort, zRecv, zg, zok1, List.set_cons_zero, List.set_cons_succ, List.getElem?_cons_zero, List.getElem?_cons_succ, List.length_cons, List.length_nil, List.length_set, Option.toList_some, Option.toList_none, List.cons_append, List.nil_append, Value.category, true_and, and_true, Nat.zero_add, Nat.add_zero, Nat.le_refl, Nat.reduceAdd, Nat.reduceLT, zMo]
          rw [cl (by omega), nI_1, ← iI_n]
          refine ⟨vk, wk _ _ [_, _, none, none, none, none] _ _ _ _ (by simp [zsub]) (ih _ (fun j hj => ?_))⟩
          by_cases e : j = k
          · subst e; rw [upd_at, vu_at]
          · rw [upd_ne e, vu_ne e, hrw j (by omega)]
        · simp only [zwp, oJump, oPush, oILoad, oALoad, oLLoad, oDLoad, oIStore, oAStore, oLStore, oDStore, oIinc, o_iadd, o_isub, o_imul, o_iand, o_ior, o_ixor, o_ishl, o_ishr, o_iushr, o_idiv, o_ladd, o_lsub, o_lmul, o_ldiv, o_lrem, o_ddiv, o_i2l, o_l2i, o_i2d, o_i2b, o_lcmp, o_dcmp, o_dup, o_dup2, o_pop, o_ic_eq, o_ic_ne, o_ic_lt, o_ic_ge, o_ic_gt, o_ic_le, o_if_eq, o_if_ne, o_if_lt, o_if_ge, o_if_gt, o_if_le, o_goto, oSwitch, zsw, oGetf, oPutI, oPutZ, oPutJ, oPutA, oIald, oLald, oDald, oBald, oZald, oIast, oLast, oDast, oBast, oZast, oAald, oAast, o_mmax, o_mmin, oCall, oCallM, oCallMV, oIret, oZret, oLret, oDret, oVret, oThrow, zMO, zThru, zpop, zShort, zRecv, zg, zok1, List.set_cons_zero, List.set_cons_succ, List.getElem?_cons_zero, List.getElem?_cons_succ, List.length_cons, List.length_nil, List.length_set, Option.toList_some, Option.toList_none, List.cons_append, List.nil_append, Value.category, true_and, and_true, Nat.zero_add, Nat.add_zero, Nat.le_refl, Nat.reduceAdd, Nat.reduceLT, zMo]
          refine ⟨fun h => absurd ((nI_leI (by omega) (by omega)).mp h) (by omega), fun _ => b93 _ _ _ _ _ ?_⟩
          have hct := cB_le q t
          rw [cB_step, pickN] at iht
          simp only [zwp, oJump, oPush, oILoad, oALoad, oLLoad, oDLoad, oIStore, oAStore, oLStore, oDStore, oIinc, o_iadd, o_isub, o_imul, o_iand, o_ior, o_ixor, o_ishl, o_ishr, o_iushr, o_idiv, o_ladd, o_lsub, o_lmul, o_ldiv, o_lrem, o_ddiv, o_i2l, o_l2i, o_i2d, o_i2b, o_lcmp, o_dcmp, o_dup, o_dup2, o_pop, o_ic_eq, o_ic_ne, o_ic_lt, o_ic_ge, o_ic_gt, o_ic_le, o_if_eq, o_if_ne, o_if_lt, o_if_ge, o_if_gt, o_if_le, o_goto, oSwitch, zsw, oGetf, oPutI, oPutZ, oPutJ, oPutA, oIald, oLald, oDald, oBald, oZald, oIast, oLast, oDast, oBast, oZast, oAald, oAast, o_mmax, o_mmin, oCall, oCallM, oCallMV, oIret, oZret, oLret, oDret, oVret, oThrow, zMO, zThru, zpop, zShort, zRecv, zg, zok1, List.set_cons_zero, List.set_cons_succ, List.getElem?_cons_zero, List.getElem?_cons_succ, List.length_cons, List.length_nil, List.length_set, Option.toList_some, Option.toList_none, List.cons_append, List.nil_append, Value.category, true_and, and_true, Nat.zero_add, Nat.add_zero, Nat.le_refl, Nat.reduceAdd, Nat.reduceLT, zMo]
          refine ⟨_, 0, 0, ⟨by decide, by omega, by omega⟩, Can.mono (m_canStand hfl hok hG (ρ := X.2) (k := k) (t := t) (by omega) hrow (by omega)) ?_⟩
          rintro o w' ⟨rfl, rfl⟩
          rw [hq]
          simp only [zwp, oJump, oPush, oILoad, oALoad, oLLoad, oDLoad, oIStore, oAStore, oLStore, oDStore, oIinc, o_iadd, o_isub, o_imul, o_iand, o_ior, o_ixor, o_ishl, o_ishr, o_iushr, o_idiv, o_ladd, o_lsub, o_lmul, o_ldiv, o_lrem, o_ddiv, o_i2l, o_l2i, o_i2d, o_i2b, o_lcmp, o_dcmp, o_dup, o_dup2, o_pop, o_ic_eq, o_ic_ne, o_ic_lt, o_ic_ge, o_ic_gt, o_ic_le, o_if_eq, o_if_ne, o_if_lt, o_if_ge, o_if_gt, o_if_le, o_goto, oSwitch, zsw, oGetf, oPutI, oPutZ, oPutJ, oPutA, oIald, oLald, oDald, oBald, oZald, oIast, oLast, oDast, oBast, oZast, oAald, oAast, o_mmax, o_mmin, oCall, oCallM, oCallMV, oIret, oZret, oLret, oDret, oVret, oThrow, zMO, zThru, zpop, zShort, zRecv, zg, zok1, List.set_cons_zero, List.set_cons_succ, List.getElem?_cons_zero, List.getElem?_cons_succ, List.length_cons, List.length_nil, List.length_set, Option.toList_some, Option.toList_none, List.cons_append, List.nil_append, Value.category, true_and, and_true, Nat.zero_add, Nat.add_zero, Nat.le_refl, Nat.reduceAdd, Nat.reduceLT, zMo]
          rw [zb_eq0]
          refine ⟨fun hf => b119 _ _ _ _ _ ?_, fun hf => b103 _ _ _ _ _ ?_⟩
          · rw [hf, if_neg (show ¬ false = true by decide), if_neg (show ¬ (false = true ∧ cB q t = i) from fun h => (by cases h.1)), Nat.add_zero] at iht
            simp only [zwp, oJump, oPush, oILoad, oALoad, oLLoad, oDLoad, oIStore, oAStore, oLStore, oDStore, oIinc, o_iadd, o_isub, o_imul, o_iand, o_ior, o_ixor, o_ishl, o_ishr, o_iushr, o_idiv, o_ladd, o_lsub, o_lmul, o_ldiv, o_lrem, o_ddiv, o_i2l, o_l2i, o_i2d, o_i2b, o_lcmp, o_dcmp, o_dup, o_dup2, o_pop, o_ic_eq, o_ic_ne, o_ic_lt, o_ic_ge, o_ic_gt, o_ic_le, o_if_eq, o_if_ne, o_if_lt, o_if_ge, o_if_gt, o_if_le, o_goto, oSwitch, zsw, oGetf, oPutI, oPutZ, oPutJ, oPutA, oIald, oLald, oDald, oBald, oZald, oIast, oLast, oDast, oBast, oZast, oAald, oAast, o_mmax, o_mmin, oCall, oCallM, oCallMV, oIret, oZret, oLret, oDret, oVret, oThrow, zMO, zThru, zpop, zShort, zRecv, zg, zok1, List.set_cons_zero, List.set_cons_succ, List.getElem?_cons_zero, List.getElem?_cons_succ, List.length_cons, List.length_nil, List.length_set, Option.toList_some, Option.toList_none, List.cons_append, List.nil_append, Value.category, true_and, and_true, Nat.zero_add, Nat.add_zero, Nat.le_refl, Nat.reduceAdd, Nat.reduceLT, zMo]
            rw [nI_1]
            exact iht
          · have hf : q t = true := by simpa using hf
            rw [hf, if_pos rfl] at iht
            have n114 : ∀ c : Int, c = (if i < cB q t + 1 then ((if true = true ∧ cB q t = i then t else pickN q i t : Nat) : Int) else -1) → K 114 [some (.ref 0), some (.int (nI k)), none, some (.int (iI ((i : Int) - (cB q t : Nat)))), some (.int (iI (if i < cB q t then ((pickN q i t : Nat) : Int) else -1))), some (.int (nI t))] [.int (iI c)] (zMo th mc (nI (tn S)) sv ty ch ixa wr om (jN (y)) fm fr fd fp fg fs ftx fF fL fA sF sL sW fO rw' br st bs du fo) 0 0 := fun c hc => b114 _ _ _ _ _ (by
              simp only [zwp, oJump, oPush, oILoad, oALoad, oLLoad, oDLoad, oIStore, oAStore, oLStore, oDStore, oIinc, o_iadd, o_isub, o_imul, o_iand, o_ior, o_ixor, o_ishl, o_ishr, o_iushr, o_idiv, o_ladd, o_lsub, o_lmul, o_ldiv, o_lrem, o_ddiv, o_i2l, o_l2i, o_i2d, o_i2b, o_lcmp, o_dcmp, o_dup, o_dup2, o_pop, o_ic_eq, o_ic_ne, o_ic_lt, o_ic_ge, o_ic_gt, o_ic_le, o_if_eq, o_if_ne, o_if_lt, o_if_ge, o_if_gt, o_if_le, o_goto, oSwitch, zsw, oGetf, oPutI, oPutZ, oPutJ, oPutA, oIald, oLald, oDald, oBald, oZald, oIast, oLast, oDast, oBast, oZast, oAald, oAast, o_mmax, o_mmin, oCall, oCallM, oCallMV, oIret, oZret, oLret, oDret, oVret, oThrow, zMO, zThru, zpop, zShort, zRecv, zg, zok1, List.set_cons_zero, List.set_cons_succ, List.getElem?_cons_zero, List.getElem?_cons_succ, List.length_cons, List.length_nil, List.length_set, Option.toList_some, Option.toList_none, List.cons_append, List.nil_append, Value.category, true_and, and_true, Nat.zero_add, Nat.add_zero, Nat.le_refl, Nat.reduceAdd, Nat.reduceLT, zMo]
              refine b119 _ _ _ _ _ ?_
              simp only [zwp, oJump, oPush, oILoad, oALoad, oLLoad, oDLoad, oIStore, oAStore, oLStore, oDStore, oIinc, o_iadd, o_isub, o_imul, o_iand, o_ior, o_ixor, o_ishl, o_ishr, o_iushr, o_idiv, o_ladd, o_lsub, o_lmul, o_ldiv, o_lrem, o_ddiv, o_i2l, o_l2i, o_i2d, o_i2b, o_lcmp, o_dcmp, o_dup, o_dup2, o_pop, o_ic_eq, o_ic_ne, o_ic_lt, o_ic_ge, o_ic_gt, o_ic_le, o_if_eq, o_if_ne, o_if_lt, o_if_ge, o_if_gt, o_if_le, o_goto, oSwitch, zsw, oGetf, oPutI, oPutZ, oPutJ, oPutA, oIald, oLald, oDald, oBald, oZald, oIast, oLast, oDast, oBast, oZast, oAald, oAast, o_mmax, o_mmin, oCall, oCallM, oCallMV, oIret, oZret, oLret, oDret, oVret, oThrow, zMO, zThru, zpop, zShort, zRecv, zg, zok1, List.set_cons_zero, List.set_cons_succ, List.getElem?_cons_zero, List.getElem?_cons_succ, List.length_cons, List.length_nil, List.length_set, Option.toList_some, Option.toList_none, List.cons_append, List.nil_append, Value.category, true_and, and_true, Nat.zero_add, Nat.add_zero, Nat.le_refl, Nat.reduceAdd, Nat.reduceLT, zMo]
              rw [nI_1, show (-1 : Int32) = iI (-1) from rfl, iI_add, hc, show (i : Int) - (cB q t : Nat) + -1 = (i : Int) - ((cB q t + 1 : Nat) : Int) by omega]
              exact iht)
            simp only [zwp, oJump, oPush, oILoad, oALoad, oLLoad, oDLoad, oIStore, oAStore, oLStore, oDStore, oIinc, o_iadd, o_isub, o_imul, o_iand, o_ior, o_ixor, o_ishl, o_ishr, o_iushr, o_idiv, o_ladd, o_lsub, o_lmul, o_ldiv, o_lrem, o_ddiv, o_i2l, o_l2i, o_i2d, o_i2b, o_lcmp, o_dcmp, o_dup, o_dup2, o_pop, o_ic_eq, o_ic_ne, o_ic_lt, o_ic_ge, o_ic_gt, o_ic_le, o_if_eq, o_if_ne, o_if_lt, o_if_ge, o_if_gt, o_if_le, o_goto, oSwitch, zsw, oGetf, oPutI, oPutZ, oPutJ, oPutA, oIald, oLald, oDald, oBald, oZald, oIast, oLast, oDast, oBast, oZast, oAald, oAast, o_mmax, o_mmin, oCall, oCallM, oCallMV, oIret, oZret, oLret, oDret, oVret, oThrow, zMO, zThru, zpop, zShort, zRecv, zg, zok1, List.set_cons_zero, List.set_cons_succ, List.getElem?_cons_zero, List.getElem?_cons_succ, List.length_cons, List.length_nil, List.length_set, Option.toList_some, Option.toList_none, List.cons_append, List.nil_append, Value.category, true_and, and_true, Nat.zero_add, Nat.add_zero, Nat.le_refl, Nat.reduceAdd, Nat.reduceLT, zMo]
            rw [show (0 : Int32) = iI 0 from rfl, iI_eq (in32 (by omega) (by omega)) (in32 (by omega) (by omega))]
            refine ⟨fun h0 => b112 _ _ _ _ _ ?_, fun h0 => b107 _ _ _ _ _ ?_⟩
            · simp only [zwp, oJump, oPush, oILoad, oALoad, oLLoad, oDLoad, oIStore, oAStore, oLStore, oDStore, oIinc, o_iadd, o_isub, o_imul, o_iand, o_ior, o_ixor, o_ishl, o_ishr, o_iushr, o_idiv, o_ladd, o_lsub, o_lmul, o_ldiv, o_lrem, o_ddiv, o_i2l, o_l2i, o_i2d, o_i2b, o_lcmp, o_dcmp, o_dup, o_dup2, o_pop, o_ic_eq, o_ic_ne, o_ic_lt, o_ic_ge, o_ic_gt, o_ic_le, o_if_eq, o_if_ne, o_if_lt, o_if_ge, o_if_gt, o_if_le, o_goto, oSwitch, zsw, oGetf, oPutI, oPutZ, oPutJ, oPutA, oIald, oLald, oDald, oBald, oZald, oIast, oLast, oDast, oBast, oZast, oAald, oAast, o_mmax, o_mmin, oCall, oCallM, oCallMV, oIret, oZret, oLret, oDret, oVret, oThrow, zMO, zThru, zpop, zShort, zRecv, zg, zok1, List.set_cons_zero, List.set_cons_succ, List.getElem?_cons_zero, List.getElem?_cons_succ, List.length_cons, List.length_nil, List.length_set, Option.toList_some, Option.toList_none, List.cons_append, List.nil_append, Value.category, true_and, and_true, Nat.zero_add, Nat.add_zero, Nat.le_refl, Nat.reduceAdd, Nat.reduceLT, zMo]
              refine n114 _ ?_
              by_cases e : i < cB q t
              · rw [if_pos e, if_pos (by omega), if_neg (by rintro ⟨-, h2⟩; omega)]
              · rw [if_neg e, if_neg (by omega)]
            · rw [Classical.not_not] at h0
              simp only [zwp, oJump, oPush, oILoad, oALoad, oLLoad, oDLoad, oIStore, oAStore, oLStore, oDStore, oIinc, o_iadd, o_isub, o_imul, o_iand, o_ior, o_ixor, o_ishl, o_ishr, o_iushr, o_idiv, o_ladd, o_lsub, o_lmul, o_ldiv, o_lrem, o_ddiv, o_i2l, o_l2i, o_i2d, o_i2b, o_lcmp, o_dcmp, o_dup, o_dup2, o_pop, o_ic_eq, o_ic_ne, o_ic_lt, o_ic_ge, o_ic_gt, o_ic_le, o_if_eq, o_if_ne, o_if_lt, o_if_ge, o_if_gt, o_if_le, o_goto, oSwitch, zsw, oGetf, oPutI, oPutZ, oPutJ, oPutA, oIald, oLald, oDald, oBald, oZald, oIast, oLast, oDast, oBast, oZast, oAald, oAast, o_mmax, o_mmin, oCall, oCallM, oCallMV, oIret, oZret, oLret, oDret, oVret, oThrow, zMO, zThru, zpop, zShort, zRecv, zg, zok1, List.set_cons_zero, List.set_cons_succ, List.getElem?_cons_zero, List.getElem?_cons_succ, List.length_cons, List.length_nil, List.length_set, Option.toList_some, Option.toList_none, List.cons_append, List.nil_append, Value.category, true_and, and_true, Nat.zero_add, Nat.add_zero, Nat.le_refl, Nat.reduceAdd, Nat.reduceLT, zMo]
              rw [iI_n]
              exact n114 _ (by rw [if_pos (by omega), if_pos ⟨rfl, by omega⟩])
      have count : ∀ t, t ≤ tn S → K 14 [some (.ref 0), some (.int (nI k)), some (.int (nI (cB q t))), some (.int (nI t)), none, none] [] (zMo th mc (nI (tn S)) sv ty ch ixa wr om (jN X.1) fm fr fd fp fg fs ftx fF fL fA sF sL sW fO rw' br st bs du fo) 0 0 := by
        refine zdown _ _ (b14 _ _ _ _ _ ?_) (fun t ht iht => b14 _ _ _ _ _ ?_)
        · simp only [zwp, oJump, oPush, oILoad, oALoad, oLLoad, oDLoad, oIStore, oAStore, oLStore, oDStore, oIinc, o_iadd, o_isub, o_imul, o_iand, o_ior, o_ixor, o_ishl, o_ishr, o_iushr, o_idiv, o_ladd, o_lsub, o_lmul, o_ldiv, o_lrem, o_ddiv, o_i2l, o_l2i, o_i2d, o_i2b, o_lcmp, o_dcmp, o_dup, o_dup2, o_pop, o_ic_eq, o_ic_ne, o_ic_lt, o_ic_ge, o_ic_gt, o_ic_le, o_if_eq, o_if_ne, o_if_lt, o_if_ge, o_if_gt, o_if_le, o_goto, oSwitch, zsw, oGetf, oPutI, oPutZ, oPutJ, oPutA, oIald, oLald, oDald, oBald, oZald, oIast, oLast, oDast, oBast, oZast, oAald, oAast, o_mmax, o_mmin, oCall, oCallM, oCallMV, oIret, oZret, oLret, oDret, oVret, oThrow, zMO, zThru, zpop, zShort, zRecv, zg, zok1, List.set_cons_zero, List.set_cons_succ, List.getElem?_cons_zero, List.getElem?_cons_succ, List.length_cons, List.length_nil, List.length_set, Option.toList_some, Option.toList_none, List.cons_append, List.nil_append, Value.category, true_and, and_true, Nat.zero_add, Nat.add_zero, Nat.le_refl, Nat.reduceAdd, Nat.reduceLT, zMo]
          refine ⟨fun _ => b45 _ _ _ _ _ ?_, fun h => absurd (Int32.le_refl _) h⟩
          have c0 := choose 0 (Nat.zero_le _)
          rw [show cB q 0 = 0 from rfl, if_neg (Nat.not_lt_zero _), show ((y / 65536 % cB q (tn S) : Nat) : Int) - ((0 : Nat) : Int) = ((y / 65536 % cB q (tn S) : Nat) : Int) by omega, ← iI_n] at c0
          obtain ⟨q1, hq1⟩ : ∃ c : Int64, c = 1103515245 := ⟨_, rfl⟩
          obtain ⟨q2, hq2⟩ : ∃ c : Int64, c = 12345 := ⟨_, rfl⟩
          obtain ⟨q3, hq3⟩ : ∃ c : Int64, c = 2147483648 := ⟨_, rfl⟩
          obtain ⟨q4, hq4⟩ : ∃ c : Int64, c = 65536 := ⟨_, rfl⟩
          rw [← hq1, ← hq2, ← hq3, ← hq4]
          simp only [zwp, oJump, oPush, oILoad, oALoad, oLLoad, oDLoad, oIStore, oAStore, oLStore, oDStore, oIinc, o_iadd, o_isub, o_imul, o_iand, o_ior, o_ixor, o_ishl, o_ishr, o_iushr, o_idiv, o_ladd, o_lsub, o_lmul, o_ldiv, o_lrem, o_ddiv, o_i2l, o_l2i, o_i2d, o_i2b, o_lcmp, o_dcmp, o_dup, o_dup2, o_pop, o_ic_eq, o_ic_ne, o_ic_lt, o_ic_ge, o_ic_gt, o_ic_le, o_if_eq, o_if_ne, o_if_lt, o_if_ge, o_if_gt, o_if_le, o_goto, oSwitch, zsw, oGetf, oPutI, oPutZ, oPutJ, oPutA, oIald, oLald, oDald, oBald, oZald, oIast, oLast, oDast, oBast, oZast, oAald, oAast, o_mmax, o_mmin, oCall, oCallM, oCallMV, oIret, oZret, oLret, oDret, oVret, oThrow, zMO, zThru, zpop, zShort, zRecv, zg, zok1, List.set_cons_zero, List.set_cons_succ, List.getElem?_cons_zero, List.getElem?_cons_succ, List.length_cons, List.length_nil, List.length_set, Option.toList_some, Option.toList_none, List.cons_append, List.nil_append, Value.category, true_and, and_true, Nat.zero_add, Nat.add_zero, Nat.le_refl, Nat.reduceAdd, Nat.reduceLT, zMo]
          rw [hq1, hq2, hq3, hq4]
          rw [hdn, show (65536 : Int64) = jN 65536 from rfl, jN_div (by omega) (by decide), jN_i (by omega), jN_rem (by have := Nat.div_le_self (y) 65536; omega) (by omega), jN_b]
          refine ⟨jN_ne (a := 2147483648) (by decide) (by decide), jN_ne (a := 65536) (by decide) (by decide), ?_, wk _ _ _ _ _ _ _ (by simp [zsub]; exact ⟨rfl, rfl⟩) c0⟩
          exact jN_ne (by omega) (by omega)
        · simp only [zwp, oJump, oPush, oILoad, oALoad, oLLoad, oDLoad, oIStore, oAStore, oLStore, oDStore, oIinc, o_iadd, o_isub, o_imul, o_iand, o_ior, o_ixor, o_ishl, o_ishr, o_iushr, o_idiv, o_ladd, o_lsub, o_lmul, o_ldiv, o_lrem, o_ddiv, o_i2l, o_l2i, o_i2d, o_i2b, o_lcmp, o_dcmp, o_dup, o_dup2, o_pop, o_ic_eq, o_ic_ne, o_ic_lt, o_ic_ge, o_ic_gt, o_ic_le, o_if_eq, o_if_ne, o_if_lt, o_if_ge, o_if_gt, o_if_le, o_goto, oSwitch, zsw, oGetf, oPutI, oPutZ, oPutJ, oPutA, oIald, oLald, oDald, oBald, oZald, oIast, oLast, oDast, oBast, oZast, oAald, oAast, o_mmax, o_mmin, oCall, oCallM, oCallMV, oIret, oZret, oLret, oDret, oVret, oThrow, zMO, zThru, zpop, zShort, zRecv, zg, zok1, List.set_cons_zero, List.set_cons_succ, List.getElem?_cons_zero, List.getElem?_cons_succ, List.length_cons, List.length_nil, List.length_set, Option.toList_some, Option.toList_none, List.cons_append, List.nil_append, Value.category, true_and, and_true, Nat.zero_add, Nat.add_zero, Nat.le_refl, Nat.reduceAdd, Nat.reduceLT, zMo]
          refine ⟨fun h => absurd ((nI_leI (by omega) (by omega)).mp h) (by omega), fun _ => b22 _ _ _ _ _ ?_⟩
          rw [cB_step] at iht
          have n37 : ∀ b : Bool, b = q t → K 37 [some (.ref 0), some (.int (nI k)), some (.int (nI (cB q t))), some (.int (nI t)), none, none] [.int (zb b), .int (nI (cB q t))] (zMo th mc (nI (tn S)) sv ty ch ixa wr om (jN X.1) fm fr fd fp fg fs ftx fF fL fA sF sL sW fO rw' br st bs du fo) 0 0 := fun b hb => b37 _ _ _ _ _ (by
            simp only [zwp, oJump, oPush, oILoad, oALoad, oLLoad, oDLoad, oIStore, oAStore, oLStore, oDStore, oIinc, o_iadd, o_isub, o_imul, o_iand, o_ior, o_ixor, o_ishl, o_ishr, o_iushr, o_idiv, o_ladd, o_lsub, o_lmul, o_ldiv, o_lrem, o_ddiv, o_i2l, o_l2i, o_i2d, o_i2b, o_lcmp, o_dcmp, o_dup, o_dup2, o_pop, o_ic_eq, o_ic_ne, o_ic_lt, o_ic_ge, o_ic_gt, o_ic_le, o_if_eq, o_if_ne, o_if_lt, o_if_ge, o_if_gt, o_if_le, o_goto, oSwitch, zsw, oGetf, oPutI, oPutZ, oPutJ, oPutA, oIald, oLald, oDald, oBald, oZald, oIast, oLast, oDast, oBast, oZast, oAald, oAast, o_mmax, o_mmin, oCall, oCallM, oCallMV, oIret, oZret, oLret, oDret, oVret, oThrow, zMO, zThru, zpop, zShort, zRecv, zg, zok1, List.set_cons_zero, List.set_cons_succ, List.getElem?_cons_zero, List.getElem?_cons_succ, List.length_cons, List.length_nil, List.length_set, Option.toList_some, Option.toList_none, List.cons_append, List.nil_append, Value.category, true_and, and_true, Nat.zero_add, Nat.add_zero, Nat.le_refl, Nat.reduceAdd, Nat.reduceLT, zMo]
            rw [show zb b = nI (if b then 1 else 0) from by cases b <;> rfl, nI_add, nI_1, hb]
            exact iht)
          simp only [zwp, oJump, oPush, oILoad, oALoad, oLLoad, oDLoad, oIStore, oAStore, oLStore, oDStore, oIinc, o_iadd, o_isub, o_imul, o_iand, o_ior, o_ixor, o_ishl, o_ishr, o_iushr, o_idiv, o_ladd, o_lsub, o_lmul, o_ldiv, o_lrem, o_ddiv, o_i2l, o_l2i, o_i2d, o_i2b, o_lcmp, o_dcmp, o_dup, o_dup2, o_pop, o_ic_eq, o_ic_ne, o_ic_lt, o_ic_ge, o_ic_gt, o_ic_le, o_if_eq, o_if_ne, o_if_lt, o_if_ge, o_if_gt, o_if_le, o_goto, oSwitch, zsw, oGetf, oPutI, oPutZ, oPutJ, oPutA, oIald, oLald, oDald, oBald, oZald, oIast, oLast, oDast, oBast, oZast, oAald, oAast, o_mmax, o_mmin, oCall, oCallM, oCallMV, oIret, oZret, oLret, oDret, oVret, oThrow, zMO, zThru, zpop, zShort, zRecv, zg, zok1, List.set_cons_zero, List.set_cons_succ, List.getElem?_cons_zero, List.getElem?_cons_succ, List.length_cons, List.length_nil, List.length_set, Option.toList_some, Option.toList_none, List.cons_append, List.nil_append, Value.category, true_and, and_true, Nat.zero_add, Nat.add_zero, Nat.le_refl, Nat.reduceAdd, Nat.reduceLT, zMo]
          refine ⟨_, 0, 0, ⟨by decide, by omega, by omega⟩, Can.mono (m_canStand hfl hok hG (ρ := X.2) (k := k) (t := t) (by omega) hrow (by omega)) ?_⟩
          rintro o w' ⟨rfl, rfl⟩
          rw [hq]
          simp only [zwp, oJump, oPush, oILoad, oALoad, oLLoad, oDLoad, oIStore, oAStore, oLStore, oDStore, oIinc, o_iadd, o_isub, o_imul, o_iand, o_ior, o_ixor, o_ishl, o_ishr, o_iushr, o_idiv, o_ladd, o_lsub, o_lmul, o_ldiv, o_lrem, o_ddiv, o_i2l, o_l2i, o_i2d, o_i2b, o_lcmp, o_dcmp, o_dup, o_dup2, o_pop, o_ic_eq, o_ic_ne, o_ic_lt, o_ic_ge, o_ic_gt, o_ic_le, o_if_eq, o_if_ne, o_if_lt, o_if_ge, o_if_gt, o_if_le, o_goto, oSwitch, zsw, oGetf, oPutI, oPutZ, oPutJ, oPutA, oIald, oLald, oDald, oBald, oZald, oIast, oLast, oDast, oBast, oZast, oAald, oAast, o_mmax, o_mmin, oCall, oCallM, oCallMV, oIret, oZret, oLret, oDret, oVret, oThrow, zMO, zThru, zpop, zShort, zRecv, zg, zok1, List.set_cons_zero, List.set_cons_succ, List.getElem?_cons_zero, List.getElem?_cons_succ, List.length_cons, List.length_nil, List.length_set, Option.toList_some, Option.toList_none, List.cons_append, List.nil_append, Value.category, true_and, and_true, Nat.zero_add, Nat.add_zero, Nat.le_refl, Nat.reduceAdd, Nat.reduceLT, zMo]
          rw [zb_eq0]
          refine ⟨fun hf => b36 _ _ _ _ _ ?_, fun hf => b32 _ _ _ _ _ ?_⟩
          · simp only [zwp, oJump, oPush, oILoad, oALoad, oLLoad, oDLoad, oIStore, oAStore, oLStore, oDStore, oIinc, o_iadd, o_isub, o_imul, o_iand, o_ior, o_ixor, o_ishl, o_ishr, o_iushr, o_idiv, o_ladd, o_lsub, o_lmul, o_ldiv, o_lrem, o_ddiv, o_i2l, o_l2i, o_i2d, o_i2b, o_lcmp, o_dcmp, o_dup, o_dup2, o_pop, o_ic_eq, o_ic_ne, o_ic_lt, o_ic_ge, o_ic_gt, o_ic_le, o_if_eq, o_if_ne, o_if_lt, o_if_ge, o_if_gt, o_if_le, o_goto, oSwitch, zsw, oGetf, oPutI, oPutZ, oPutJ, oPutA, oIald, oLald, oDald, oBald, oZald, oIast, oLast, oDast, oBast, oZast, oAald, oAast, o_mmax, o_mmin, oCall, oCallM, oCallMV, oIret, oZret, oLret, oDret, oVret, oThrow, zMO, zThru, zpop, zShort, zRecv, zg, zok1, List.set_cons_zero, List.set_cons_succ, List.getElem?_cons_zero, List.getElem?_cons_succ, List.length_cons, List.length_nil, List.length_set, Option.toList_some, Option.toList_none, List.cons_append, List.nil_append, Value.category, true_and, and_true, Nat.zero_add, Nat.add_zero, Nat.le_refl, Nat.reduceAdd, Nat.reduceLT, zMo]
            exact n37 false hf.symm
          · simp only [zwp, oJump, oPush, oILoad, oALoad, oLLoad, oDLoad, oIStore, oAStore, oLStore, oDStore, oIinc, o_iadd, o_isub, o_imul, o_iand, o_ior, o_ixor, o_ishl, o_ishr, o_iushr, o_idiv, o_ladd, o_lsub, o_lmul, o_ldiv, o_lrem, o_ddiv, o_i2l, o_l2i, o_i2d, o_i2b, o_lcmp, o_dcmp, o_dup, o_dup2, o_pop, o_ic_eq, o_ic_ne, o_ic_lt, o_ic_ge, o_ic_gt, o_ic_le, o_if_eq, o_if_ne, o_if_lt, o_if_ge, o_if_gt, o_if_le, o_goto, oSwitch, zsw, oGetf, oPutI, oPutZ, oPutJ, oPutA, oIald, oLald, oDald, oBald, oZald, oIast, oLast, oDast, oBast, oZast, oAald, oAast, o_mmax, o_mmin, oCall, oCallM, oCallMV, oIret, oZret, oLret, oDret, oVret, oThrow, zMO, zThru, zpop, zShort, zRecv, zg, zok1, List.set_cons_zero, List.set_cons_succ, List.getElem?_cons_zero, List.getElem?_cons_succ, List.length_cons, List.length_nil, List.length_set, Option.toList_some, Option.toList_none, List.cons_append, List.nil_append, Value.category, true_and, and_true, Nat.zero_add, Nat.add_zero, Nat.le_refl, Nat.reduceAdd, Nat.reduceLT, zMo]
            exact n37 true (by simpa using Eq.symm (show q t = true by simpa using hf))
      exact count 0 (Nat.zero_le _)
  refine b0 _ _ _ _ _ ?_
  simp only [zwp, oJump, oPush, oILoad, oALoad, oLLoad, oDLoad, oIStore, oAStore, oLStore, oDStore, oIinc, o_iadd, o_isub, o_imul, o_iand, o_ior, o_ixor, o_ishl, o_ishr, o_iushr, o_idiv, o_ladd, o_lsub, o_lmul, o_ldiv, o_lrem, o_ddiv, o_i2l, o_l2i, o_i2d, o_i2b, o_lcmp, o_dcmp, o_dup, o_dup2, o_pop, o_ic_eq, o_ic_ne, o_ic_lt, o_ic_ge, o_ic_gt, o_ic_le, o_if_eq, o_if_ne, o_if_lt, o_if_ge, o_if_gt, o_if_le, o_goto, oSwitch, zsw, oGetf, oPutI, oPutZ, oPutJ, oPutA, oIald, oLald, oDald, oBald, oZald, oIast, oLast, oDast, oBast, oZast, oAald, oAast, o_mmax, o_mmin, oCall, oCallM, oCallMV, oIret, oZret, oLret, oDret, oVret, oThrow, zMO, zThru, zpop, zShort, zRecv, zg, zok1, List.set_cons_zero, List.set_cons_succ, List.getElem?_cons_zero, List.getElem?_cons_succ, List.length_cons, List.length_nil, List.length_set, Option.toList_some, Option.toList_none, List.cons_append, List.nil_append, Value.category, true_and, and_true, Nat.zero_add, Nat.add_zero, Nat.le_refl, Nat.reduceAdd, Nat.reduceLT, zMo]
  exact outer 0 (Nat.zero_le _) rw (fun j hj => absurd hj (Nat.not_lt_zero _))
set_option maxRecDepth 100000 in
theorem m_drawn (hfl : l.stackTraces = false) {S : TS} {mcN : Nat} (hF : Fine S mcN) (hM : MoR S fm fr fd fp fg) (s r : Int32) : Can l yX8_drawn wsX8_drawn 4 0 0 [.ref 0, .int s, .int r] (zMo th (nI mcN) (nI (tn S)) sv ty ch ixa wr om db fm fr fd fp fg fs ftx fF fL fA sF sL sW fO rw br st bs du fo) (fun o w' => ∃ q v db', o = .inl (some (.int v)) ∧ IsMo S mcN sv ty ixa wr om db' fs ftx fo q w' ∧ ((¬ ((0 ≤ s ∧ s ≤ 999999) ∧ 1 ≤ r ∧ r ≤ 50) ∧ q = 1) ∨ (((0 ≤ s ∧ s ≤ 999999) ∧ 1 ≤ r ∧ r ≤ 50) ∧ q = 0 ∧ v = iI (dMs S s.toNatClampNeg r.toNatClampNeg).2))) := by
  have hok := hF.1
  have hn := hok.1
  refine zm_X8_drawn hfl ?_
  intro K wk b0 b11 b21 b25 b26 b36 b38 b49 b55 b71 b76 b82 b87 b88 b95
  have n25 : ¬ ((0 ≤ s ∧ s ≤ 999999) ∧ 1 ≤ r ∧ r ≤ 50) → K 25 [some (.ref 0), some (.int s), some (.int r), none, none, none] [.ref 0] (zMo th (nI mcN) (nI (tn S)) sv ty ch ixa wr om db fm fr fd fp fg fs ftx fF fL fA sF sL sW fO rw br st bs du fo) 0 0 := fun h => b25 _ _ _ _ _ (by
    simp only [zwp, oJump, oPush, oILoad, oALoad, oLLoad, oDLoad, oIStore, oAStore, oLStore, oDStore, oIinc, o_iadd, o_isub, o_imul, o_iand, o_ior, o_ixor, o_ishl, o_ishr, o_iushr, o_idiv, o_ladd, o_lsub, o_lmul, o_ldiv, o_lrem, o_ddiv, o_i2l, o_l2i, o_i2d, o_i2b, o_lcmp, o_dcmp, o_dup, o_dup2, o_pop, o_ic_eq, o_ic_ne, o_ic_lt, o_ic_ge, o_ic_gt, o_ic_le, o_if_eq, o_if_ne, o_if_lt, o_if_ge, o_if_gt, o_if_le, o_goto, oSwitch, zsw, oGetf, oPutI, oPutZ, oPutJ, oPutA, oIald, oLald, oDald, oBald, oZald, oIast, oLast, oDast, oBast, oZast, oAald, oAast, o_mmax, o_mmin, oCall, oCallM, oCallMV, oIret, oZret, oLret, oDret, oVret, oThrow, zMO, zThru, zpop, zShort, zRecv, zg, zok1, List.set_cons_zero, List.set_cons_succ, List.getElem?_cons_zero, List.getElem?_cons_succ, List.length_cons, List.length_nil, List.length_set, Option.toList_some, Option.toList_none, List.cons_append, List.nil_append, Value.category, true_and, and_true, Nat.zero_add, Nat.add_zero, Nat.le_refl, Nat.reduceAdd, Nat.reduceLT, zMo]
    refine b26 _ _ _ _ _ ?_
    simp only [zwp, oJump, oPush, oILoad, oALoad, oLLoad, oDLoad, oIStore, oAStore, oLStore, oDStore, oIinc, o_iadd, o_isub, o_imul, o_iand, o_ior, o_ixor, o_ishl, o_ishr, o_iushr, o_idiv, o_ladd, o_lsub, o_lmul, o_ldiv, o_lrem, o_ddiv, o_i2l, o_l2i, o_i2d, o_i2b, o_lcmp, o_dcmp, o_dup, o_dup2, o_pop, o_ic_eq, o_ic_ne, o_ic_lt, o_ic_ge, o_ic_gt, o_ic_le, o_if_eq, o_if_ne, o_if_lt, o_if_ge, o_if_gt, o_if_le, o_goto, oSwitch, zsw, oGetf, oPutI, oPutZ, oPutJ, oPutA, oIald, oLald, oDald, oBald, oZald, oIast, oLast, oDast, oBast, oZast, oAald, oAast, o_mmax, o_mmin, oCall, oCallM, oCallMV, oIret, oZret, oLret, oDret, oVret, oThrow, zMO, zThru, zpop, zShort, zRecv, zg, zok1, List.set_cons_zero, List.set_cons_succ, List.getElem?_cons_zero, List.getElem?_cons_succ, List.length_cons, List.length_nil, List.length_set, Option.toList_some, Option.toList_none, List.cons_append, List.nil_append, Value.category, true_and, and_true, Nat.zero_add, Nat.add_zero, Nat.le_refl, Nat.reduceAdd, Nat.reduceLT, zMo]
    refine ⟨fun h => absurd h (by decide), fun _ => b36 _ _ _ _ _ ?_⟩
    simp only [zwp, oJump, oPush, oILoad, oALoad, oLLoad, oDLoad, oIStore, oAStore, oLStore, oDStore, oIinc, o_iadd, o_isub, o_imul, o_iand, o_ior, o_ixor, o_ishl, o_ishr, o_iushr, o_idiv, o_ladd, o_lsub, o_lmul, o_ldiv, o_lrem, o_ddiv, o_i2l, o_l2i, o_i2d, o_i2b, o_lcmp, o_dcmp, o_dup, o_dup2, o_pop, o_ic_eq, o_ic_ne, o_ic_lt, o_ic_ge, o_ic_gt, o_ic_le, o_if_eq, o_if_ne, o_if_lt, o_if_ge, o_if_gt, o_if_le, o_goto, oSwitch, zsw, oGetf, oPutI, oPutZ, oPutJ, oPutA, oIald, oLald, oDald, oBald, oZald, oIast, oLast, oDast, oBast, oZast, oAald, oAast, o_mmax, o_mmin, oCall, oCallM, oCallMV, oIret, oZret, oLret, oDret, oVret, oThrow, zMO, zThru, zpop, zShort, zRecv, zg, zok1, List.set_cons_zero, List.set_cons_succ, List.getElem?_cons_zero, List.getElem?_cons_succ, List.length_cons, List.length_nil, List.length_set, Option.toList_some, Option.toList_none, List.cons_append, List.nil_append, Value.category, true_and, and_true, Nat.zero_add, Nat.add_zero, Nat.le_refl, Nat.reduceAdd, Nat.reduceLT, zMo]
    exact ⟨1, 0, db, rfl, isMo hM, Or.inl ⟨h, rfl⟩⟩)
  refine b0 _ _ _ _ _ ?_
  simp only [zwp, oJump, oPush, oILoad, oALoad, oLLoad, oDLoad, oIStore, oAStore, oLStore, oDStore, oIinc, o_iadd, o_isub, o_imul, o_iand, o_ior, o_ixor, o_ishl, o_ishr, o_iushr, o_idiv, o_ladd, o_lsub, o_lmul, o_ldiv, o_lrem, o_ddiv, o_i2l, o_l2i, o_i2d, o_i2b, o_lcmp, o_dcmp, o_dup, o_dup2, o_pop, o_ic_eq, o_ic_ne, o_ic_lt, o_ic_ge, o_ic_gt, o_ic_le, o_if_eq, o_if_ne, o_if_lt, o_if_ge, o_if_gt, o_if_le, o_goto, oSwitch, zsw, oGetf, oPutI, oPutZ, oPutJ, oPutA, oIald, oLald, oDald, oBald, oZald, oIast, oLast, oDast, oBast, oZast, oAald, oAast, o_mmax, o_mmin, oCall, oCallM, oCallMV, oIret, oZret, oLret, oDret, oVret, oThrow, zMO, zThru, zpop, zShort, zRecv, zg, zok1, List.set_cons_zero, List.set_cons_succ, List.getElem?_cons_zero, List.getElem?_cons_succ, List.length_cons, List.length_nil, List.length_set, Option.toList_some, Option.toList_none, List.cons_append, List.nil_append, Value.category, true_and, and_true, Nat.zero_add, Nat.add_zero, Nat.le_refl, Nat.reduceAdd, Nat.reduceLT, zMo]
  refine ⟨_, 0, 0, ⟨by decide, by omega, by omega⟩, Can.mono (m_in hfl s 0 999999 _) ?_⟩
  rintro o w' ⟨rfl, rfl⟩
  simp only [zwp, oJump, oPush, oILoad, oALoad, oLLoad, oDLoad, oIStore, oAStore, oLStore, oDStore, oIinc, o_iadd, o_isub, o_imul, o_iand, o_ior, o_ixor, o_ishl, o_ishr, o_iushr, o_idiv, o_ladd, o_lsub, o_lmul, o_ldiv, o_lrem, o_ddiv, o_i2l, o_l2i, o_i2d, o_i2b, o_lcmp, o_dcmp, o_dup, o_dup2, o_pop, o_ic_eq, o_ic_ne, o_ic_lt, o_ic_ge, o_ic_gt, o_ic_le, o_if_eq, o_if_ne, o_if_lt, o_if_ge, o_if_gt, o_if_le, o_goto, oSwitch, zsw, oGetf, oPutI, oPutZ, oPutJ, oPutA, oIald, oLald, oDald, oBald, oZald, oIast, oLast, oDast, oBast, oZast, oAald, oAast, o_mmax, o_mmin, oCall, oCallM, oCallMV, oIret, oZret, oLret, oDret, oVret, oThrow, zMO, zThru, zpop, zShort, zRecv, zg, zok1, List.set_cons_zero, List.set_cons_succ, List.getElem?_cons_zero, List.getElem?_cons_succ, List.length_cons, List.length_nil, List.length_set, Option.toList_some, Option.toList_none, List.cons_append, List.nil_append, Value.category, true_and, and_true, Nat.zero_add, Nat.add_zero, Nat.le_refl, Nat.reduceAdd, Nat.reduceLT, zMo]
  rw [zb_dec]
  refine ⟨fun h => n25 (fun hc => h hc.1), fun h => b11 _ _ _ _ _ ?_⟩
  rw [Classical.not_not] at h
  simp only [zwp, oJump, oPush, oILoad, oALoad, oLLoad, oDLoad, oIStore, oAStore, oLStore, oDStore, oIinc, o_iadd, o_isub, o_imul, o_iand, o_ior, o_ixor, o_ishl, o_ishr, o_iushr, o_idiv, o_ladd, o_lsub, o_lmul, o_ldiv, o_lrem, o_ddiv, o_i2l, o_l2i, o_i2d, o_i2b, o_lcmp, o_dcmp, o_dup, o_dup2, o_pop, o_ic_eq, o_ic_ne, o_ic_lt, o_ic_ge, o_ic_gt, o_ic_le, o_if_eq, o_if_ne, o_if_lt, o_if_ge, o_if_gt, o_if_le, o_goto, oSwitch, zsw, oGetf, oPutI, oPutZ, oPutJ, oPutA, oIald, oLald, oDald, oBald, oZald, oIast, oLast, oDast, oBast, oZast, oAald, oAast, o_mmax, o_mmin, oCall, oCallM, oCallMV, oIret, oZret, oLret, oDret, oVret, oThrow, zMO, zThru, zpop, zShort, zRecv, zg, zok1, List.set_cons_zero, List.set_cons_succ, List.getElem?_cons_zero, List.getElem?_cons_succ, List.length_cons, List.length_nil, List.length_set, Option.toList_some, Option.toList_none, List.cons_append, List.nil_append, Value.category, true_and, and_true, Nat.zero_add, Nat.add_zero, Nat.le_refl, Nat.reduceAdd, Nat.reduceLT, zMo]
  refine ⟨_, 0, 0, ⟨by decide, by omega, by omega⟩, Can.mono (m_in hfl r 1 50 _) ?_⟩
  rintro o w' ⟨rfl, rfl⟩
  simp only [zwp, oJump, oPush, oILoad, oALoad, oLLoad, oDLoad, oIStore, oAStore, oLStore, oDStore, oIinc, o_iadd, o_isub, o_imul, o_iand, o_ior, o_ixor, o_ishl, o_ishr, o_iushr, o_idiv, o_ladd, o_lsub, o_lmul, o_ldiv, o_lrem, o_ddiv, o_i2l, o_l2i, o_i2d, o_i2b, o_lcmp, o_dcmp, o_dup, o_dup2, o_pop, o_ic_eq, o_ic_ne, o_ic_lt, o_ic_ge, o_ic_gt, o_ic_le, o_if_eq, o_if_ne, o_if_lt, o_if_ge, o_if_gt, o_if_le, o_goto, oSwitch, zsw, oGetf, oPutI, oPutZ, oPutJ, oPutA, oIald, oLald, oDald, oBald, oZald, oIast, oLast, oDast, oBast, oZast, oAald, oAast, o_mmax, o_mmin, oCall, oCallM, oCallMV, oIret, oZret, oLret, oDret, oVret, oThrow, zMO, zThru, zpop, zShort, zRecv, zg, zok1, List.set_cons_zero, List.set_cons_succ, List.getElem?_cons_zero, List.getElem?_cons_succ, List.length_cons, List.length_nil, List.length_set, Option.toList_some, Option.toList_none, List.cons_append, List.nil_append, Value.category, true_and, and_true, Nat.zero_add, Nat.add_zero, Nat.le_refl, Nat.reduceAdd, Nat.reduceLT, zMo]
  rw [zb_dec]
  refine ⟨fun h2 => n25 (fun hc => h2 hc.2), fun h2 => b21 _ _ _ _ _ ?_⟩
  rw [Classical.not_not] at h2
  obtain ⟨a, ka, rfl⟩ := nI_of (x := s) (Int32.not_lt.mpr h.1)
  obtain ⟨c, kc, rfl⟩ := nI_of (x := r) (Int32.not_lt.mpr (Int32.le_trans (by decide) h2.1))
  have c50 := (nI_leI (b := 50) kc (by omega)).mp h2.2
  simp only [zwp, oJump, oPush, oILoad, oALoad, oLLoad, oDLoad, oIStore, oAStore, oLStore, oDStore, oIinc, o_iadd, o_isub, o_imul, o_iand, o_ior, o_ixor, o_ishl, o_ishr, o_iushr, o_idiv, o_ladd, o_lsub, o_lmul, o_ldiv, o_lrem, o_ddiv, o_i2l, o_l2i, o_i2d, o_i2b, o_lcmp, o_dcmp, o_dup, o_dup2, o_pop, o_ic_eq, o_ic_ne, o_ic_lt, o_ic_ge, o_ic_gt, o_ic_le, o_if_eq, o_if_ne, o_if_lt, o_if_ge, o_if_gt, o_if_le, o_goto, oSwitch, zsw, oGetf, oPutI, oPutZ, oPutJ, oPutA, oIald, oLald, oDald, oBald, oZald, oIast, oLast, oDast, oBast, oZast, oAald, oAast, o_mmax, o_mmin, oCall, oCallM, oCallMV, oIret, oZret, oLret, oDret, oVret, oThrow, zMO, zThru, zpop, zShort, zRecv, zg, zok1, List.set_cons_zero, List.set_cons_succ, List.getElem?_cons_zero, List.getElem?_cons_succ, List.length_cons, List.length_nil, List.length_set, Option.toList_some, Option.toList_none, List.cons_append, List.nil_append, Value.category, true_and, and_true, Nat.zero_add, Nat.add_zero, Nat.le_refl, Nat.reduceAdd, Nat.reduceLT, zMo]
  refine b26 _ _ _ _ _ ?_
  simp only [zwp, oJump, oPush, oILoad, oALoad, oLLoad, oDLoad, oIStore, oAStore, oLStore, oDStore, oIinc, o_iadd, o_isub, o_imul, o_iand, o_ior, o_ixor, o_ishl, o_ishr, o_iushr, o_idiv, o_ladd, o_lsub, o_lmul, o_ldiv, o_lrem, o_ddiv, o_i2l, o_l2i, o_i2d, o_i2b, o_lcmp, o_dcmp, o_dup, o_dup2, o_pop, o_ic_eq, o_ic_ne, o_ic_lt, o_ic_ge, o_ic_gt, o_ic_le, o_if_eq, o_if_ne, o_if_lt, o_if_ge, o_if_gt, o_if_le, o_goto, oSwitch, zsw, oGetf, oPutI, oPutZ, oPutJ, oPutA, oIald, oLald, oDald, oBald, oZald, oIast, oLast, oDast, oBast, oZast, oAald, oAast, o_mmax, o_mmin, oCall, oCallM, oCallMV, oIret, oZret, oLret, oDret, oVret, oThrow, zMO, zThru, zpop, zShort, zRecv, zg, zok1, List.set_cons_zero, List.set_cons_succ, List.getElem?_cons_zero, List.getElem?_cons_succ, List.length_cons, List.length_nil, List.length_set, Option.toList_some, Option.toList_none, List.cons_append, List.nil_append, Value.category, true_and, and_true, Nat.zero_add, Nat.add_zero, Nat.le_refl, Nat.reduceAdd, Nat.reduceLT, zMo]
  refine ⟨fun _ => b38 _ _ _ _ _ ?_, fun h => absurd (Int32.le_refl _) h⟩
  simp only [zwp, oJump, oPush, oILoad, oALoad, oLLoad, oDLoad, oIStore, oAStore, oLStore, oDStore, oIinc, o_iadd, o_isub, o_imul, o_iand, o_ior, o_ixor, o_ishl, o_ishr, o_iushr, o_idiv, o_ladd, o_lsub, o_lmul, o_ldiv, o_lrem, o_ddiv, o_i2l, o_l2i, o_i2d, o_i2b, o_lcmp, o_dcmp, o_dup, o_dup2, o_pop, o_ic_eq, o_ic_ne, o_ic_lt, o_ic_ge, o_ic_gt, o_ic_le, o_if_eq, o_if_ne, o_if_lt, o_if_ge, o_if_gt, o_if_le, o_goto, oSwitch, zsw, oGetf, oPutI, oPutZ, oPutJ, oPutA, oIald, oLald, oDald, oBald, oZald, oIast, oLast, oDast, oBast, oZast, oAald, oAast, o_mmax, o_mmin, oCall, oCallM, oCallMV, oIret, oZret, oLret, oDret, oVret, oThrow, zMO, zThru, zpop, zShort, zRecv, zg, zok1, List.set_cons_zero, List.set_cons_succ, List.getElem?_cons_zero, List.getElem?_cons_succ, List.length_cons, List.length_nil, List.length_set, Option.toList_some, Option.toList_none, List.cons_append, List.nil_append, Value.category, true_and, and_true, Nat.zero_add, Nat.add_zero, Nat.le_refl, Nat.reduceAdd, Nat.reduceLT, zMo]
  rw [jN_i ka]
  have loop : ∀ k, k ≤ c → ∀ rw' st' : Nat → Int32, K 49 [some (.ref 0), some (.int (nI a)), some (.int (nI c)), some (.int (iI (dMs S a k).2)), some (.int (nI k)), none] [] (zMo 0 (nI mcN) (nI (tn S)) sv ty ch ixa wr om (jN (dMs S a k).1) fm fr fd fp fg fs ftx fF fL fA sF sL sW fO rw' br st' bs du fo) 0 0 := by
    refine zdown _ _ (fun rw' st' => b49 _ _ _ _ _ ?_) (fun k hk ih rw' st' => b49 _ _ _ _ _ ?_)
    · simp only [zwp, oJump, oPush, oILoad, oALoad, oLLoad, oDLoad, oIStore, oAStore, oLStore, oDStore, oIinc, o_iadd, o_isub, o_imul, o_iand, o_ior, o_ixor, o_ishl, o_ishr, o_iushr, o_idiv, o_ladd, o_lsub, o_lmul, o_ldiv, o_lrem, o_ddiv, o_i2l, o_l2i, o_i2d, o_i2b, o_lcmp, o_dcmp, o_dup, o_dup2, o_pop, o_ic_eq, o_ic_ne, o_ic_lt, o_ic_ge, o_ic_gt, o_ic_le, o_if_eq, o_if_ne, o_if_lt, o_if_ge, o_if_gt, o_if_le, o_goto, oSwitch, zsw, oGetf, oPutI, oPutZ, oPutJ, oPutA, oIald, oLald, oDald, oBald, oZald, oIast, oLast, oDast, oBast, oZast, oAald, oAast, o_mmax, o_mmin, oCall, oCallM, oCallMV, oIret, oZret, oLret, oDret, oVret, oThrow, zMO, zThru, zpop, zShort, zRecv, zg, zok1, List.set_cons_zero, List.set_cons_succ, List.getElem?_cons_zero, List.getElem?_cons_succ, List.length_cons, List.length_nil, List.length_set, Option.toList_some, Option.toList_none, List.cons_append, List.nil_append, Value.category, true_and, and_true, Nat.zero_add, Nat.add_zero, Nat.le_refl, Nat.reduceAdd, Nat.reduceLT, zMo]
      refine ⟨fun _ => b95 _ _ _ _ _ ?_, fun h => absurd (Int32.le_refl _) h⟩
      simp only [zwp, oJump, oPush, oILoad, oALoad, oLLoad, oDLoad, oIStore, oAStore, oLStore, oDStore, oIinc, o_iadd, o_isub, o_imul, o_iand, o_ior, o_ixor, o_ishl, o_ishr, o_iushr, o_idiv, o_ladd, o_lsub, o_lmul, o_ldiv, o_lrem, o_ddiv, o_i2l, o_l2i, o_i2d, o_i2b, o_lcmp, o_dcmp, o_dup, o_dup2, o_pop, o_ic_eq, o_ic_ne, o_ic_lt, o_ic_ge, o_ic_gt, o_ic_le, o_if_eq, o_if_ne, o_if_lt, o_if_ge, o_if_gt, o_if_le, o_goto, oSwitch, zsw, oGetf, oPutI, oPutZ, oPutJ, oPutA, oIald, oLald, oDald, oBald, oZald, oIast, oLast, oDast, oBast, oZast, oAald, oAast, o_mmax, o_mmin, oCall, oCallM, oCallMV, oIret, oZret, oLret, oDret, oVret, oThrow, zMO, zThru, zpop, zShort, zRecv, zg, zok1, List.set_cons_zero, List.set_cons_succ, List.getElem?_cons_zero, List.getElem?_cons_succ, List.length_cons, List.length_nil, List.length_set, Option.toList_some, Option.toList_none, List.cons_append, List.nil_append, Value.category, true_and, and_true, Nat.zero_add, Nat.add_zero, Nat.le_refl, Nat.reduceAdd, Nat.reduceLT, zMo]
      exact ⟨0, _, _, rfl, isMo hM, Or.inr ⟨⟨h, h2⟩, rfl, by rw [cl (by omega), cl (by omega)]⟩⟩
    · simp only [zwp, oJump, oPush, oILoad, oALoad, oLLoad, oDLoad, oIStore, oAStore, oLStore, oDStore, oIinc, o_iadd, o_isub, o_imul, o_iand, o_ior, o_ixor, o_ishl, o_ishr, o_iushr, o_idiv, o_ladd, o_lsub, o_lmul, o_ldiv, o_lrem, o_ddiv, o_i2l, o_l2i, o_i2d, o_i2b, o_lcmp, o_dcmp, o_dup, o_dup2, o_pop, o_ic_eq, o_ic_ne, o_ic_lt, o_ic_ge, o_ic_gt, o_ic_le, o_if_eq, o_if_ne, o_if_lt, o_if_ge, o_if_gt, o_if_le, o_goto, oSwitch, zsw, oGetf, oPutI, oPutZ, oPutJ, oPutA, oIald, oLald, oDald, oBald, oZald, oIast, oLast, oDast, oBast, oZast, oAald, oAast, o_mmax, o_mmin, oCall, oCallM, oCallMV, oIret, oZret, oLret, oDret, oVret, oThrow, zMO, zThru, zpop, zShort, zRecv, zg, zok1, List.set_cons_zero, List.set_cons_succ, List.getElem?_cons_zero, List.getElem?_cons_succ, List.length_cons, List.length_nil, List.length_set, Option.toList_some, Option.toList_none, List.cons_append, List.nil_append, Value.category, true_and, and_true, Nat.zero_add, Nat.add_zero, Nat.le_refl, Nat.reduceAdd, Nat.reduceLT, zMo]
      refine ⟨fun h => absurd ((nI_leI (by omega) (by omega)).mp h) (by omega), fun _ => b55 _ _ _ _ _ ?_⟩
      have hlt := dMs_lt (S := S) (s := a) (by omega) k
      have hb := dMs_b (s := a) hF k
      rw [dMs] at ih
      obtain ⟨Y, hY⟩ : ∃ Y, dMs S a k = Y := ⟨_, rfl⟩
      rw [hY] at ih hlt hb ⊢
      have hC := dw_cons (x := Y.1) hF (tn S) (Nat.le_refl _)
      have hpb := planR_b hok (ρ := (dw S Y.1 (tn S)).2) (fun j hj => (hC j hj).1)
      simp only [zwp, oJump, oPush, oILoad, oALoad, oLLoad, oDLoad, oIStore, oAStore, oLStore, oDStore, oIinc, o_iadd, o_isub, o_imul, o_iand, o_ior, o_ixor, o_ishl, o_ishr, o_iushr, o_idiv, o_ladd, o_lsub, o_lmul, o_ldiv, o_lrem, o_ddiv, o_i2l, o_l2i, o_i2d, o_i2b, o_lcmp, o_dcmp, o_dup, o_dup2, o_pop, o_ic_eq, o_ic_ne, o_ic_lt, o_ic_ge, o_ic_gt, o_ic_le, o_if_eq, o_if_ne, o_if_lt, o_if_ge, o_if_gt, o_if_le, o_goto, oSwitch, zsw, oGetf, oPutI, oPutZ, oPutJ, oPutA, oIald, oLald, oDald, oBald, oZald, oIast, oLast, oDast, oBast, oZast, oAald, oAast, o_mmax, o_mmin, oCall, oCallM, oCallMV, oIret, oZret, oLret, oDret, oVret, oThrow, zMO, zThru, zpop, zShort, zRecv, zg, zok1, List.set_cons_zero, List.set_cons_succ, List.getElem?_cons_zero, List.getElem?_cons_succ, List.length_cons, List.length_nil, List.length_set, Option.toList_some, Option.toList_none, List.cons_append, List.nil_append, Value.category, true_and, and_true, Nat.zero_add, Nat.add_zero, Nat.le_refl, Nat.reduceAdd, Nat.reduceLT, zMo]
      refine ⟨_, 0, 0, ⟨by decide, by omega, by omega⟩, Can.mono (m_drawRow hfl hF (fun t ht => (hM t ht).2.2.2.2) hlt) ?_⟩
      rintro o w' ⟨rw2, rfl, rfl, hrw⟩
      simp only [zwp, oJump, oPush, oILoad, oALoad, oLLoad, oDLoad, oIStore, oAStore, oLStore, oDStore, oIinc, o_iadd, o_isub, o_imul, o_iand, o_ior, o_ixor, o_ishl, o_ishr, o_iushr, o_idiv, o_ladd, o_lsub, o_lmul, o_ldiv, o_lrem, o_ddiv, o_i2l, o_l2i, o_i2d, o_i2b, o_lcmp, o_dcmp, o_dup, o_dup2, o_pop, o_ic_eq, o_ic_ne, o_ic_lt, o_ic_ge, o_ic_gt, o_ic_le, o_if_eq, o_if_ne, o_if_lt, o_if_ge, o_if_gt, o_if_le, o_goto, oSwitch, zsw, oGetf, oPutI, oPutZ, oPutJ, oPutA, oIald, oLald, oDald, oBald, oZald, oIast, oLast, oDast, oBast, oZast, oAald, oAast, o_mmax, o_mmin, oCall, oCallM, oCallMV, oIret, oZret, oLret, oDret, oVret, oThrow, zMO, zThru, zpop, zShort, zRecv, zg, zok1, List.set_cons_zero, List.set_cons_succ, List.getElem?_cons_zero, List.getElem?_cons_succ, List.length_cons, List.length_nil, List.length_set, Option.toList_some, Option.toList_none, List.cons_append, List.nil_append, Value.category, true_and, and_true, Nat.zero_add, Nat.add_zero, Nat.le_refl, Nat.reduceAdd, Nat.reduceLT, zMo]
      refine ⟨_, 0, 0, ⟨by decide, by omega, by omega⟩, Can.mono (m_planOf hfl hok hM (ρ := (dw S Y.1 (tn S)).2) (fun j hj => ⟨hrw j hj, (hC j hj).1⟩)) ?_⟩
      rintro o w' ⟨st2, rfl, rfl, -⟩
      obtain ⟨X, hX⟩ : ∃ X, dw S Y.1 (tn S) = X := ⟨_, rfl⟩
      rw [hX] at ih hC hpb ⊢
      have n88 : ∀ v : Int, v = (if planR S X.2 ≠ -1 ∧ (Y.2 = -1 ∨ planR S X.2 < Y.2) then planR S X.2 else Y.2) → K 88 [some (.ref 0), some (.int (nI a)), some (.int (nI c)), some (.int (iI Y.2)), some (.int (nI k)), some (.int (iI (planR S X.2)))] [.int (iI v)] (zMo 0 (nI mcN) (nI (tn S)) sv ty ch ixa wr om (jN X.1) fm fr fd fp fg fs ftx fF fL fA sF sL sW fO rw2 br st2 bs du fo) 0 0 := fun v hv => b88 _ _ _ _ _ (by
        simp only [zwp, oJump, oPush, oILoad, oALoad, oLLoad, oDLoad, oIStore, oAStore, oLStore, oDStore, oIinc, o_iadd, o_isub, o_imul, o_iand, o_ior, o_ixor, o_ishl, o_ishr, o_iushr, o_idiv, o_ladd, o_lsub, o_lmul, o_ldiv, o_lrem, o_ddiv, o_i2l, o_l2i, o_i2d, o_i2b, o_lcmp, o_dcmp, o_dup, o_dup2, o_pop, o_ic_eq, o_ic_ne, o_ic_lt, o_ic_ge, o_ic_gt, o_ic_le, o_if_eq, o_if_ne, o_if_lt, o_if_ge, o_if_gt, o_if_le, o_goto, oSwitch, zsw, oGetf, oPutI, oPutZ, oPutJ, oPutA, oIald, oLald, oDald, oBald, oZald, oIast, oLast, oDast, oBast, oZast, oAald, oAast, o_mmax, o_mmin, oCall, oCallM, oCallMV, oIret, oZret, oLret, oDret, oVret, oThrow, zMO, zThru, zpop, zShort, zRecv, zg, zok1, List.set_cons_zero, List.set_cons_succ, List.getElem?_cons_zero, List.getElem?_cons_succ, List.length_cons, List.length_nil, List.length_set, Option.toList_some, Option.toList_none, List.cons_append, List.nil_append, Value.category, true_and, and_true, Nat.zero_add, Nat.add_zero, Nat.le_refl, Nat.reduceAdd, Nat.reduceLT, zMo]
        rw [nI_1, hv]
        exact wk _ _ [_, _, _, _, _, none] _ _ _ _ (by simp [zsub]) (ih rw2 st2))
      have n87 : ¬ (planR S X.2 ≠ -1 ∧ (Y.2 = -1 ∨ planR S X.2 < Y.2)) → K 87 [some (.ref 0), some (.int (nI a)), some (.int (nI c)), some (.int (iI Y.2)), some (.int (nI k)), some (.int (iI (planR S X.2)))] [] (zMo 0 (nI mcN) (nI (tn S)) sv ty ch ixa wr om (jN X.1) fm fr fd fp fg fs ftx fF fL fA sF sL sW fO rw2 br st2 bs du fo) 0 0 := fun hv => b87 _ _ _ _ _ (by
        simp only [zwp, oJump, oPush, oILoad, oALoad, oLLoad, oDLoad, oIStore, oAStore, oLStore, oDStore, oIinc, o_iadd, o_isub, o_imul, o_iand, o_ior, o_ixor, o_ishl, o_ishr, o_iushr, o_idiv, o_ladd, o_lsub, o_lmul, o_ldiv, o_lrem, o_ddiv, o_i2l, o_l2i, o_i2d, o_i2b, o_lcmp, o_dcmp, o_dup, o_dup2, o_pop, o_ic_eq, o_ic_ne, o_ic_lt, o_ic_ge, o_ic_gt, o_ic_le, o_if_eq, o_if_ne, o_if_lt, o_if_ge, o_if_gt, o_if_le, o_goto, oSwitch, zsw, oGetf, oPutI, oPutZ, oPutJ, oPutA, oIald, oLald, oDald, oBald, oZald, oIast, oLast, oDast, oBast, oZast, oAald, oAast, o_mmax, o_mmin, oCall, oCallM, oCallMV, oIret, oZret, oLret, oDret, oVret, oThrow, zMO, zThru, zpop, zShort, zRecv, zg, zok1, List.set_cons_zero, List.set_cons_succ, List.getElem?_cons_zero, List.getElem?_cons_succ, List.length_cons, List.length_nil, List.length_set, Option.toList_some, Option.toList_none, List.cons_append, List.nil_append, Value.category, true_and, and_true, Nat.zero_add, Nat.add_zero, Nat.le_refl, Nat.reduceAdd, Nat.reduceLT, zMo]
        exact n88 _ (by rw [if_neg hv]))
      have n82 : (planR S X.2 ≠ -1 ∧ (Y.2 = -1 ∨ planR S X.2 < Y.2)) → K 82 [some (.ref 0), some (.int (nI a)), some (.int (nI c)), some (.int (iI Y.2)), some (.int (nI k)), some (.int (iI (planR S X.2)))] [] (zMo 0 (nI mcN) (nI (tn S)) sv ty ch ixa wr om (jN X.1) fm fr fd fp fg fs ftx fF fL fA sF sL sW fO rw2 br st2 bs du fo) 0 0 := fun hv => b82 _ _ _ _ _ (by
        simp only [zwp, oJump, oPush, oILoad, oALoad, oLLoad, oDLoad, oIStore, oAStore, oLStore, oDStore, oIinc, o_iadd, o_isub, o_imul, o_iand, o_ior, o_ixor, o_ishl, o_ishr, o_iushr, o_idiv, o_ladd, o_lsub, o_lmul, o_ldiv, o_lrem, o_ddiv, o_i2l, o_l2i, o_i2d, o_i2b, o_lcmp, o_dcmp, o_dup, o_dup2, o_pop, o_ic_eq, o_ic_ne, o_ic_lt, o_ic_ge, o_ic_gt, o_ic_le, o_if_eq, o_if_ne, o_if_lt, o_if_ge, o_if_gt, o_if_le, o_goto, oSwitch, zsw, oGetf, oPutI, oPutZ, oPutJ, oPutA, oIald, oLald, oDald, oBald, oZald, oIast, oLast, oDast, oBast, oZast, oAald, oAast, o_mmax, o_mmin, oCall, oCallM, oCallMV, oIret, oZret, oLret, oDret, oVret, oThrow, zMO, zThru, zpop, zShort, zRecv, zg, zok1, List.set_cons_zero, List.set_cons_succ, List.getElem?_cons_zero, List.getElem?_cons_succ, List.length_cons, List.length_nil, List.length_set, Option.toList_some, Option.toList_none, List.cons_append, List.nil_append, Value.category, true_and, and_true, Nat.zero_add, Nat.add_zero, Nat.le_refl, Nat.reduceAdd, Nat.reduceLT, zMo]
        exact n88 _ (by rw [if_pos hv]))
      simp only [zwp, oJump, oPush, oILoad, oALoad, oLLoad, oDLoad, oIStore, oAStore, oLStore, oDStore, oIinc, o_iadd, o_isub, o_imul, o_iand, o_ior, o_ixor, o_ishl, o_ishr, o_iushr, o_idiv, o_ladd, o_lsub, o_lmul, o_ldiv, o_lrem, o_ddiv, o_i2l, o_l2i, o_i2d, o_i2b, o_lcmp, o_dcmp, o_dup, o_dup2, o_pop, o_ic_eq, o_ic_ne, o_ic_lt, o_ic_ge, o_ic_gt, o_ic_le, o_if_eq, o_if_ne, o_if_lt, o_if_ge, o_if_gt, o_if_le, o_goto, oSwitch, zsw, oGetf, oPutI, oPutZ, oPutJ, oPutA, oIald, oLald, oDald, oBald, oZald, oIast, oLast, oDast, oBast, oZast, oAald, oAast, o_mmax, o_mmin, oCall, oCallM, oCallMV, oIret, oZret, oLret, oDret, oVret, oThrow, zMO, zThru, zpop, zShort, zRecv, zg, zok1, List.set_cons_zero, List.set_cons_succ, List.getElem?_cons_zero, List.getElem?_cons_succ, List.length_cons, List.length_nil, List.length_set, Option.toList_some, Option.toList_none, List.cons_append, List.nil_append, Value.category, true_and, and_true, Nat.zero_add, Nat.add_zero, Nat.le_refl, Nat.reduceAdd, Nat.reduceLT, zMo]
      rw [show (-1 : Int32) = iI (-1) from rfl, iI_eq (in32 (by omega) (by omega)) (in32 (by omega) (by omega))]
      refine ⟨fun h1 => n87 (fun hc => hc.1 h1), fun h1 => b71 _ _ _ _ _ ?_⟩
      simp only [zwp, oJump, oPush, oILoad, oALoad, oLLoad, oDLoad, oIStore, oAStore, oLStore, oDStore, oIinc, o_iadd, o_isub, o_imul, o_iand, o_ior, o_ixor, o_ishl, o_ishr, o_iushr, o_idiv, o_ladd, o_lsub, o_lmul, o_ldiv, o_lrem, o_ddiv, o_i2l, o_l2i, o_i2d, o_i2b, o_lcmp, o_dcmp, o_dup, o_dup2, o_pop, o_ic_eq, o_ic_ne, o_ic_lt, o_ic_ge, o_ic_gt, o_ic_le, o_if_eq, o_if_ne, o_if_lt, o_if_ge, o_if_gt, o_if_le, o_goto, oSwitch, zsw, oGetf, oPutI, oPutZ, oPutJ, oPutA, oIald, oLald, oDald, oBald, oZald, oIast, oLast, oDast, oBast, oZast, oAald, oAast, o_mmax, o_mmin, oCall, oCallM, oCallMV, oIret, oZret, oLret, oDret, oVret, oThrow, zMO, zThru, zpop, zShort, zRecv, zg, zok1, List.set_cons_zero, List.set_cons_succ, List.getElem?_cons_zero, List.getElem?_cons_succ, List.length_cons, List.length_nil, List.length_set, Option.toList_some, Option.toList_none, List.cons_append, List.nil_append, Value.category, true_and, and_true, Nat.zero_add, Nat.add_zero, Nat.le_refl, Nat.reduceAdd, Nat.reduceLT, zMo]
      rw [show (-1 : Int32) = iI (-1) from rfl, iI_eq (in32 (by omega) (by omega)) (in32 (by omega) (by omega))]
      refine ⟨fun h3 => n82 ⟨h1, Or.inl h3⟩, fun h3 => b76 _ _ _ _ _ ?_⟩
      simp only [zwp, oJump, oPush, oILoad, oALoad, oLLoad, oDLoad, oIStore, oAStore, oLStore, oDStore, oIinc, o_iadd, o_isub, o_imul, o_iand, o_ior, o_ixor, o_ishl, o_ishr, o_iushr, o_idiv, o_ladd, o_lsub, o_lmul, o_ldiv, o_lrem, o_ddiv, o_i2l, o_l2i, o_i2d, o_i2b, o_lcmp, o_dcmp, o_dup, o_dup2, o_pop, o_ic_eq, o_ic_ne, o_ic_lt, o_ic_ge, o_ic_gt, o_ic_le, o_if_eq, o_if_ne, o_if_lt, o_if_ge, o_if_gt, o_if_le, o_goto, oSwitch, zsw, oGetf, oPutI, oPutZ, oPutJ, oPutA, oIald, oLald, oDald, oBald, oZald, oIast, oLast, oDast, oBast, oZast, oAald, oAast, o_mmax, o_mmin, oCall, oCallM, oCallMV, oIret, oZret, oLret, oDret, oVret, oThrow, zMO, zThru, zpop, zShort, zRecv, zg, zok1, List.set_cons_zero, List.set_cons_succ, List.getElem?_cons_zero, List.getElem?_cons_succ, List.length_cons, List.length_nil, List.length_set, Option.toList_some, Option.toList_none, List.cons_append, List.nil_append, Value.category, true_and, and_true, Nat.zero_add, Nat.add_zero, Nat.le_refl, Nat.reduceAdd, Nat.reduceLT, zMo]
      rw [iI_le (in32 (by omega) (by omega)) (in32 (by omega) (by omega))]
      refine ⟨fun h4 => n87 (fun hc => hc.2.elim h3 (fun q => by omega)), fun h4 => n82 ⟨h1, Or.inr (by omega)⟩⟩
  exact loop 0 (Nat.zero_le _) rw st
end DW
