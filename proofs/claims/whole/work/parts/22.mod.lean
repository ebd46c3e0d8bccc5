-- pics: zMo
/-! THE REFERENCE: its sets -/
section MO2
/-- the least first start with another start of the count -/
def mnZ (z : Int) (F : Nat → Int) (T : Nat) : Nat → Int
  | 0 => z
  | k + 1 => if T.testBit k then min (mnZ z F T k) (F k) else mnZ z F T k
def mxZ (z : Int) (L : Nat → Int) (T : Nat) : Nat → Int
  | 0 => z
  | k + 1 => if T.testBit k then max (mxZ z L T k) (L k) else mxZ z L T k
theorem mnZ_min {z : Int} {F : Nat → Int} {T : Nat} (hz : z ≤ 1000000) : ∀ k, mnZ z F T k = min z (mnF F T k)
  | 0 => by rw [mnZ, mnF]; omega
  | k + 1 => by
    have := mnZ_min (F := F) (T := T) hz k
    rw [mnZ, mnF]
    split <;> omega
theorem mxZ_max {z : Int} {L : Nat → Int} {T : Nat} (hz : -1000000 ≤ z) : ∀ k, mxZ z L T k = max z (mxL L T k)
  | 0 => by rw [mxZ, mxL]; omega
  | k + 1 => by
    have := mxZ_max (L := L) (T := T) hz k
    rw [mxZ, mxL]
    split <;> omega
def mZ (S : TS) (T : Nat) : Nat → Int
  | 0 => -1
  | k + 1 => if T.testBit k then (tM S k : Int) else mZ S T k
def oneZ (S : TS) (T : Nat) : Nat → Bool
  | 0 => true
  | k + 1 => if T.testBit k then oneZ S T k && (decide (mZ S T k = -1) || decide (mZ S T k = (tM S k : Int))) else oneZ S T k
theorem mZ_at (S : TS) (T : Nat) : ∀ k, (mZ S T k = -1 ∧ ∀ t, t < k → T.testBit t = false) ∨ ∃ t, t < k ∧ T.testBit t = true ∧ mZ S T k = (tM S t : Int)
  | 0 => Or.inl ⟨rfl, fun t ht => absurd ht (Nat.not_lt_zero _)⟩
  | k + 1 => by
    rw [mZ]
    cases hb : T.testBit k with
    | true => exact Or.inr ⟨k, by omega, hb, by simp⟩
    | false =>
      rcases mZ_at S T k with ⟨h1, h2⟩ | ⟨t, h1, h2, h3⟩
      · refine Or.inl ⟨by simpa using h1, fun t ht => ?_⟩
        by_cases htk : t = k
        · subst htk; exact hb
        · exact h2 t (by omega)
      · exact Or.inr ⟨t, by omega, h2, by simpa using h3⟩
theorem oneZ_at (S : TS) (T : Nat) : ∀ k, oneZ S T k = true ↔ ∀ t, t < k → T.testBit t = true → (tM S t : Int) = mZ S T k
  | 0 => ⟨fun _ t ht => absurd ht (Nat.not_lt_zero _), fun _ => rfl⟩
  | k + 1 => by
    have ih := oneZ_at S T k
    have hm := mZ_at S T k
    rw [oneZ, mZ]
    cases hb : T.testBit k with
    | false =>
      simp only [Bool.false_eq_true, if_false]
      rw [ih]
      constructor
      · intro h t ht htb
        exact h t (by have : t ≠ k := fun e => by subst e; rw [hb] at htb; cases htb
                      omega) htb
      · intro h t ht htb
        exact h t (by omega) htb
    | true =>
      simp only [if_true]
      rw [Bool.and_eq_true, ih, Bool.or_eq_true, decide_eq_true_iff, decide_eq_true_iff]
      constructor
      · rintro ⟨h1, h2⟩ t ht htb
        by_cases htk : t = k
        · subst htk; rfl
        · have := h1 t (by omega) htb
          rcases h2 with h2 | h2
          · rcases hm with ⟨-, h4⟩ | ⟨u, -, -, h5⟩
            · rw [h4 t (by omega)] at htb; cases htb
            · omega
          · omega
      · intro h
        have hk := h k (by omega) hb
        rcases hm with ⟨h3, h4⟩ | ⟨u, h3, h4, h5⟩
        · exact ⟨fun t ht htb => (by rw [h4 t ht] at htb; cases htb), Or.inl h3⟩
        · have hu := h u (by omega) h4
          exact ⟨fun t ht htb => (by have := h t (by omega) htb; omega), Or.inr (by omega)⟩
theorem oneZ_iff {S : TS} {T : Nat} (h0 : T ≠ 0) (hT : T < 2 ^ tn S) : oneZ S T (tn S) = true ↔ sOne S T := by
  rw [oneZ_at]
  constructor
  · intro h
    obtain ⟨t, ht, htb⟩ := exists_bit h0 hT
    refine ⟨h0, hT, tM S t, fun u hu => ?_⟩
    have e1 := h t ht htb
    have e2 := h u (bit_lt hT hu) hu
    omega
  · rintro ⟨-, -, m, hm⟩ t ht htb
    rcases mZ_at S T (tn S) with ⟨-, h4⟩ | ⟨u, -, h4, h5⟩
    · rw [h4 t ht] at htb; cases htb
    · rw [h5, hm t htb, hm u h4]
/-- the reference's set arrays -/
def MSet (S : TS) (F L : Nat → Int) (sF sL sW fO : Nat → Int32) : Prop := ∀ T, T ≠ 0 → T < 2 ^ tn S → sF T = iI (mnF F T (tn S)) ∧ sL T = iI (mxL L T (tn S)) ∧ sW T = nI (sSum (tP S) T (tn S)) ∧ fO T = zb (oneZ S T (tn S))
/-- its state arrays -/
def MRe (n : Nat) (F L : Nat → Int) (B : Nat → Nat) (fF fL fA : Nat → Int32) : Prop := ∀ t, t < n → fF t = iI (F t) ∧ fL t = iI (L t) ∧ fA t = nI (B t)
theorem nar_zb (b : Bool) : vp_nar .boolean (zb b) = zb b := by cases b <;> rfl
theorem n_shl1 {n : Nat} (h : n ≤ 8) : (1 : Int32) <<< (nI n &&& 31) = nI (2 ^ n) := n_shl (by omega)
theorem two_le {n : Nat} (h : n ≤ 8) : 2 ^ n ≤ 256 := Nat.pow_le_pow_right (by decide) h
variable {l : Launch} {th mc n sv ty ch ixa wr om : Int32} {db : Int64} {fm fr fd fp fg fs ftx fF fL fA sF sL sW fO rw br st bs du fo : Nat → Int32}
set_option maxRecDepth 100000 in
theorem m_reckonSets (hfl : l.stackTraces = false) {S : TS} {mcN : Nat} (hok : TSok S mcN) (hP : MoT S fm fp) {F L : Nat → Int} {B : Nat → Nat} (hB : StB (tn S) F L B) (hR : MRe (tn S) F L B fF fL fA) : Can l yX8_reckonSets wsX8_reckonSets 1 0 0 [.ref 0] (zMo th mc (nI (tn S)) sv ty ch ixa wr om db fm fr fd fp fg fs ftx fF fL fA sF sL sW fO rw br st bs du fo) (fun o w' => ∃ sF' sL' sW' fO', o = .inl none ∧ w' = (zMo th mc (nI (tn S)) sv ty ch ixa wr om db fm fr fd fp fg fs ftx fF fL fA sF' sL' sW' fO' rw br st bs du fo) ∧ MSet S F L sF' sL' sW' fO') := by
  have hn := hok.1
  have hmc := hok.2.2.1
  have h2n := two_le hn
  have hPt : ∀ t, t < tn S → tP S t ≤ 50 := fun t ht => (hok.2.2.2 t ht).2.2.2.2.2.1
  refine zm_X8_reckonSets hfl ?_
  intro K wk b0 b2 b12 b30 b39 b48 b59 b69 b70 b82 b92 b93 b111 b117 b129 b133 b134 b145 b151 b187
  have outer : ∀ T, T ≤ 2 ^ tn S → 1 ≤ T → ∀ (sF sL sW fO : Nat → Int32), (∀ T', T' ≠ 0 → T' < T → sF T' = iI (mnF F T' (tn S)) ∧ sL T' = iI (mxL L T' (tn S)) ∧ sW T' = nI (sSum (tP S) T' (tn S)) ∧ fO T' = zb (oneZ S T' (tn S))) → K 2 [some (.ref 0), some (.int (nI T)), none, none, none, none, none, none] [] (zMo th mc (nI (tn S)) sv ty ch ixa wr om db fm fr fd fp fg fs ftx fF fL fA sF sL sW fO rw br st bs du fo) 0 0 := by
    refine zdown _ _ (fun h1 sF sL sW fO h => b2 _ _ _ _ _ ?_) (fun T hT ih h1 sF sL sW fO h => b2 _ _ _ _ _ ?_)
    · simp only [zwp, oJump, oPush, oILoad, oALoad, oLLoad, oDLoad, oIStore, oAStore, oLStore, oDStore, oIinc, o_iadd, o_isub, o_imul, o_iand, o_ior, o_ixor, o_ishl, o_ishr, o_iushr, o_idiv, o_ladd, o_lsub, o_lmul, o_ldiv, o_lrem, o_ddiv, o_i2l, o_l2i, o_i2d, o_i2b, o_lcmp, o_dcmp, o_dup, o_dup2, o_pop, o_ic_eq, o_ic_ne, o_ic_lt, o_ic_ge, o_ic_gt, o_ic_le, o_if_eq, o_if_ne, o_if_lt, o_if_ge, o_if_gt, o_if_le, o_goto, oSwitch, zsw, oGetf, oPutI, oPutZ, oPutJ, oPutA, oIald, oLald, oDald, oBald, oZald, oIast, oLast, oDast, oBast, oZast, oAald, oAast, o_mmax, o_mmin, oCall, oCallM, oCallMV, oIret, oZret, oLret, oDret, oVret, oThrow, zMO, zThru, zpop, zShort, zRecv, zg, zok1, List.set_cons_zero, List.set_cons_succ, List.getElem?_cons_zero, List.getElem?_cons_succ, List.length_cons, List.length_nil, List.length_set, Option.toList_some, Option.toList_none, List.cons_append, List.nil_append, Value.category, true_and, and_true, Nat.zero_add, Nat.add_zero, Nat.le_refl, Nat.reduceAdd, Nat.reduceLT, zMo]
      rw [n_shl1 hn]
      refine ⟨fun _ => b187 _ _ _ _ _ ?_, fun h => absurd (Int32.le_refl _) h⟩
      simp only [zwp, oJump, oPush, oILoad, oALoad, oLLoad, oDLoad, oIStore, oAStore, oLStore, oDStore, oIinc, o_iadd, o_isub, o_imul, o_iand, o_ior, o_ixor, o_ishl, o_ishr, o_iushr, o_idiv, o_ladd, o_lsub, o_lmul, o_ldiv, o_lrem, o_ddiv, o_i2l, o_l2i, o_i2d, o_i2b, o_lcmp, o_dcmp, o_dup, o_dup2, o_pop, o_ic_eq, o_ic_ne, o_ic_lt, o_ic_ge, o_ic_gt, o_ic_le, o_if_eq, o_if_ne, o_if_lt, o_if_ge, o_if_gt, o_if_le, o_goto, oSwitch, zsw, oGetf, oPutI, oPutZ, oPutJ, oPutA, oIald, oLald, oDald, oBald, oZald, oIast, oLast, oDast, oBast, oZast, oAald, oAast, o_mmax, o_mmin, oCall, oCallM, oCallMV, oIret, oZret, oLret, oDret, oVret, oThrow, zMO, zThru, zpop, zShort, zRecv, zg, zok1, List.set_cons_zero, List.set_cons_succ, List.getElem?_cons_zero, List.getElem?_cons_succ, List.length_cons, List.length_nil, List.length_set, Option.toList_some, Option.toList_none, List.cons_append, List.nil_append, Value.category, true_and, and_true, Nat.zero_add, Nat.add_zero, Nat.le_refl, Nat.reduceAdd, Nat.reduceLT, zMo]
      exact ⟨sF, sL, sW, fO, rfl, h⟩
    · simp only [zwp, oJump, oPush, oILoad, oALoad, oLLoad, oDLoad, oIStore, oAStore, oLStore, oDStore, oIinc, o_iadd, o_isub, o_imul, o_iand, o_ior, o_ixor, o_ishl, o_ishr, o_iushr, o_idiv, o_ladd, o_lsub, o_lmul, o_ldiv, o_lrem, o_ddiv, o_i2l, o_l2i, o_i2d, o_i2b, o_lcmp, o_dcmp, o_dup, o_dup2, o_pop, o_ic_eq, o_ic_ne, o_ic_lt, o_ic_ge, o_ic_gt, o_ic_le, o_if_eq, o_if_ne, o_if_lt, o_if_ge, o_if_gt, o_if_le, o_goto, oSwitch, zsw, oGetf, oPutI, oPutZ, oPutJ, oPutA, oIald, oLald, oDald, oBald, oZald, oIast, oLast, oDast, oBast, oZast, oAald, oAast, o_mmax, o_mmin, oCall, oCallM, oCallMV, oIret, oZret, oLret, oDret, oVret, oThrow, zMO, zThru, zpop, zShort, zRecv, zg, zok1, List.set_cons_zero, List.set_cons_succ, List.getElem?_cons_zero, List.getElem?_cons_succ, List.length_cons, List.length_nil, List.length_set, Option.toList_some, Option.toList_none, List.cons_append, List.nil_append, Value.category, true_and, and_true, Nat.zero_add, Nat.add_zero, Nat.le_refl, Nat.reduceAdd, Nat.reduceLT, zMo]
      rw [n_shl1 hn, nI_leI (by omega) (by omega)]
      refine ⟨fun h => absurd h (by omega), fun _ => b12 _ _ _ _ _ ?_⟩
      simp only [zwp, oJump, oPush, oILoad, oALoad, oLLoad, oDLoad, oIStore, oAStore, oLStore, oDStore, oIinc, o_iadd, o_isub, o_imul, o_iand, o_ior, o_ixor, o_ishl, o_ishr, o_iushr, o_idiv, o_ladd, o_lsub, o_lmul, o_ldiv, o_lrem, o_ddiv, o_i2l, o_l2i, o_i2d, o_i2b, o_lcmp, o_dcmp, o_dup, o_dup2, o_pop, o_ic_eq, o_ic_ne, o_ic_lt, o_ic_ge, o_ic_gt, o_ic_le, o_if_eq, o_if_ne, o_if_lt, o_if_ge, o_if_gt, o_if_le, o_goto, oSwitch, zsw, oGetf, oPutI, oPutZ, oPutJ, oPutA, oIald, oLald, oDald, oBald, oZald, oIast, oLast, oDast, oBast, oZast, oAald, oAast, o_mmax, o_mmin, oCall, oCallM, oCallMV, oIret, oZret, oLret, oDret, oVret, oThrow, zMO, zThru, zpop, zShort, zRecv, zg, zok1, List.set_cons_zero, List.set_cons_succ, List.getElem?_cons_zero, List.getElem?_cons_succ, List.length_cons, List.length_nil, List.length_set, Option.toList_some, Option.toList_none, List.cons_append, List.nil_append, Value.category, true_and, and_true, Nat.zero_add, Nat.add_zero, Nat.le_refl, Nat.reduceAdd, Nat.reduceLT, zMo]
      have vT := vin (n := T) (N := 256) (by omega) (by decide)
      have cT := cl (n := T) (by omega)
      have inner : ∀ t, t ≤ tn S → K 30 [some (.ref 0), some (.int (nI T)), some (.int (iI (mnZ 100000 F T t))), some (.int (iI (mxZ (-100000) L T t))), some (.int (nI (sSum (tP S) T t))), some (.int (iI (mZ S T t))), some (.int (zb (oneZ S T t))), some (.int (nI t))] [] (zMo th mc (nI (tn S)) sv ty ch ixa wr om db fm fr fd fp fg fs ftx fF fL fA sF sL sW fO rw br st bs du fo) 0 0 := by
        refine zdown _ _ (b30 _ _ _ _ _ ?_) (fun t ht iht => b30 _ _ _ _ _ ?_)
        · simp only [zwp, oJump, oPush, oILoad, oALoad, oLLoad, oDLoad, oIStore, oAStore, oLStore, oDStore, oIinc, o_iadd, o_isub, o_imul, o_iand, o_ior, o_ixor, o_ishl, o_ishr, o_iushr, o_idiv, o_ladd, o_lsub, o_lmul, o_ldiv, o_lrem, o_ddiv, o_i2l, o_l2i, o_i2d, o_i2b, o_lcmp, o_dcmp, o_dup, o_dup2, o_pop, o_ic_eq, o_ic_ne, o_ic_lt, o_ic_ge, o_ic_gt, o_ic_le, o_if_eq, o_if_ne, o_if_lt, o_if_ge, o_if_gt, o_if_le, o_goto, oSwitch, zsw, oGetf, oPutI, oPutZ, oPutJ, oPutA, oIald, oLald, oDald, oBald, oZald, oIast, oLast, oDast, oBast, oZast, oAald, oAast, o_mmax, o_mmin, oCall, oCallM, oCallMV, oIret, oZret, oLret, oDret, oVret, oThrow, zMO, zThru, zpop, zShort, zRecv, zg, zok1, List.set_cons_zero, List.set_cons_succ, List.getElem?_cons_zero, List.getElem?_cons_succ, List.length_cons, List.length_nil, List.length_set, Option.toList_some, Option.toList_none, List.cons_append, List.nil_append, Value.category, true_and, and_true, Nat.zero_add, Nat.add_zero, Nat.le_refl, Nat.reduceAdd, Nat.reduceLT, zMo]
          refine ⟨fun _ => b151 _ _ _ _ _ ?_, fun h => absurd (Int32.le_refl _) h⟩
          simp only [zwp, oJump, oPush, oILoad, oALoad, oLLoad, oDLoad, oIStore, oAStore, oLStore, oDStore, oIinc, o_iadd, o_isub, o_imul, o_iand, o_ior, o_ixor, o_ishl, o_ishr, o_iushr, o_idiv, o_ladd, o_lsub, o_lmul, o_ldiv, o_lrem, o_ddiv, o_i2l, o_l2i, o_i2d, o_i2b, o_lcmp, o_dcmp, o_dup, o_dup2, o_pop, o_ic_eq, o_ic_ne, o_ic_lt, o_ic_ge, o_ic_gt, o_ic_le, o_if_eq, o_if_ne, o_if_lt, o_if_ge, o_if_gt, o_if_le, o_goto, oSwitch, zsw, oGetf, oPutI, oPutZ, oPutJ, oPutA, oIald, oLald, oDald, oBald, oZald, oIast, oLast, oDast, oBast, oZast, oAald, oAast, o_mmax, o_mmin, oCall, oCallM, oCallMV, oIret, oZret, oLret, oDret, oVret, oThrow, zMO, zThru, zpop, zShort, zRecv, zg, zok1, List.set_cons_zero, List.set_cons_succ, List.getElem?_cons_zero, List.getElem?_cons_succ, List.length_cons, List.length_nil, List.length_set, Option.toList_some, Option.toList_none, List.cons_append, List.nil_append, Value.category, true_and, and_true, Nat.zero_add, Nat.add_zero, Nat.le_refl, Nat.reduceAdd, Nat.reduceLT, zMo]
          rw [cT, nar_zb, nI_1]
          refine ⟨vT, vT, vT, vT, wk _ _ [_, _, none, none, none, none, none, none] _ _ _ _ ?_ (ih (by omega) _ _ _ _ (fun T' h0 hT' => ?_))⟩
          · simp [zsub]
          · by_cases he : T' = T
            · subst he
              rw [upd_at, upd_at, upd_at, upd_at]
              have hT2 : T' < 2 ^ tn S := by omega
              have hex := exists_bit h0 hT2
              obtain ⟨x, x1, x2, x3⟩ := mnF_at (F := F) (T := T') (k := tn S) hex (fun t ht => by have := (hB t ht).1.2; omega)
              obtain ⟨y, y1, y2, y3⟩ := mxL_at (L := L) (T := T') (k := tn S) hex (fun t ht => by have := (hB t ht).2.1.1; omega)
              have := (hB x x1).1.2
              have := (hB y y1).2.1.1
              refine ⟨?_, ?_, rfl, rfl⟩
              · rw [mnZ_min (by decide)]
                congr 1
                omega
              · rw [mxZ_max (by decide)]
                congr 1
                omega
            · rw [upd_ne he, upd_ne he, upd_ne he, upd_ne he]
              exact h T' h0 (by omega)
        · simp only [zwp, oJump, oPush, oILoad, oALoad, oLLoad, oDLoad, oIStore, oAStore, oLStore, oDStore, oIinc, o_iadd, o_isub, o_imul, o_iand, o_ior, o_ixor, o_ishl, o_ishr, o_iushr, o_idiv, o_ladd, o_lsub, o_lmul, o_ldiv, o_lrem, o_ddiv, o_i2l, o_l2i, o_i2d, o_i2b, o_lcmp, o_dcmp, o_dup, o_dup2, o_pop, o_ic_eq, o_ic_ne, o_ic_lt, o_ic_ge, o_ic_gt, o_ic_le, o_if_eq, o_if_ne, o_if_lt, o_if_ge, o_if_gt, o_if_le, o_goto, oSwitch, zsw, oGetf, oPutI, oPutZ, oPutJ, oPutA, oIald, oLald, oDald, oBald, oZald, oIast, oLast, oDast, oBast, oZast, oAald, oAast, o_mmax, o_mmin, oCall, oCallM, oCallMV, oIret, oZret, oLret, oDret, oVret, oThrow, zMO, zThru, zpop, zShort, zRecv, zg, zok1, List.set_cons_zero, List.set_cons_succ, List.getElem?_cons_zero, List.getElem?_cons_succ, List.length_cons, List.length_nil, List.length_set, Option.toList_some, Option.toList_none, List.cons_append, List.nil_append, Value.category, true_and, and_true, Nat.zero_add, Nat.add_zero, Nat.le_refl, Nat.reduceAdd, Nat.reduceLT, zMo]
          refine ⟨fun h => absurd ((nI_leI (by omega) (by omega)).mp h) (by omega), fun _ => b39 _ _ _ _ _ ?_⟩
          have vt := vin (n := t) (N := 8) (by omega) (by decide)
          have ct := cl (n := t) (by omega)
          have bt9 := hB t ht
          have hPt9 := hPt t ht
          have hMt := (hok.2.2.2 t ht).1
          have q1 := mnF_bnd (F := F) (T := T) (c := 0) (by decide) (k := t) (fun u hu => (hB u (by omega)).1.1)
          have q2 := mxL_bnd (L := L) (T := T) (c := 400) (by decide) (k := t) (fun u hu => (hB u (by omega)).2.1.2)
          have q3 := sSum_le (P := tP S) (T := T) (c := 50) (k := t) (fun u hu => hPt u (by omega))
          have z1 := mnZ_min (F := F) (T := T) (z := 100000) (by decide) t
          have z2 := mxZ_max (L := L) (T := T) (z := -100000) (by decide) t
          have hmZ : -1 ≤ mZ S T t ∧ mZ S T t ≤ 3 := by
            rcases mZ_at S T t with ⟨e, -⟩ | ⟨u, u1, -, u3⟩
            · omega
            · have := (hok.2.2.2 u (by omega)).1
              omega
          obtain ⟨e1, e2, -⟩ := hR t ht
          simp only [zwp, oJump, oPush, oILoad, oALoad, oLLoad, oDLoad, oIStore, oAStore, oLStore, oDStore, oIinc, o_iadd, o_isub, o_imul, o_iand, o_ior, o_ixor, o_ishl, o_ishr, o_iushr, o_idiv, o_ladd, o_lsub, o_lmul, o_ldiv, o_lrem, o_ddiv, o_i2l, o_l2i, o_i2d, o_i2b, o_lcmp, o_dcmp, o_dup, o_dup2, o_pop, o_ic_eq, o_ic_ne, o_ic_lt, o_ic_ge, o_ic_gt, o_ic_le, o_if_eq, o_if_ne, o_if_lt, o_if_ge, o_if_gt, o_if_le, o_goto, oSwitch, zsw, oGetf, oPutI, oPutZ, oPutJ, oPutA, oIald, oLald, oDald, oBald, oZald, oIast, oLast, oDast, oBast, oZast, oAald, oAast, o_mmax, o_mmin, oCall, oCallM, oCallMV, oIret, oZret, oLret, oDret, oVret, oThrow, zMO, zThru, zpop, zShort, zRecv, zg, zok1, List.set_cons_zero, List.set_cons_succ, List.getElem?_cons_zero, List.getElem?_cons_succ, List.length_cons, List.length_nil, List.length_set, Option.toList_some, Option.toList_none, List.cons_append, List.nil_append, Value.category, true_and, and_true, Nat.zero_add, Nat.add_zero, Nat.le_refl, Nat.reduceAdd, Nat.reduceLT, zMo]
          refine ⟨_, 0, 0, ⟨by decide, by omega, by omega⟩, Can.mono (m_has hfl (by omega) (by omega) _) ?_⟩
          rintro r w' ⟨rfl, rfl⟩
          simp only [zwp, oJump, oPush, oILoad, oALoad, oLLoad, oDLoad, oIStore, oAStore, oLStore, oDStore, oIinc, o_iadd, o_isub, o_imul, o_iand, o_ior, o_ixor, o_ishl, o_ishr, o_iushr, o_idiv, o_ladd, o_lsub, o_lmul, o_ldiv, o_lrem, o_ddiv, o_i2l, o_l2i, o_i2d, o_i2b, o_lcmp, o_dcmp, o_dup, o_dup2, o_pop, o_ic_eq, o_ic_ne, o_ic_lt, o_ic_ge, o_ic_gt, o_ic_le, o_if_eq, o_if_ne, o_if_lt, o_if_ge, o_if_gt, o_if_le, o_goto, oSwitch, zsw, oGetf, oPutI, oPutZ, oPutJ, oPutA, oIald, oLald, oDald, oBald, oZald, oIast, oLast, oDast, oBast, oZast, oAald, oAast, o_mmax, o_mmin, oCall, oCallM, oCallMV, oIret, oZret, oLret, oDret, oVret, oThrow, zMO, zThru, zpop, zShort, zRecv, zg, zok1, List.set_cons_zero, List.set_cons_succ, List.getElem?_cons_zero, List.getElem?_cons_succ, List.length_cons, List.length_nil, List.length_set, Option.toList_some, Option.toList_none, List.cons_append, List.nil_append, Value.category, true_and, and_true, Nat.zero_add, Nat.add_zero, Nat.le_refl, Nat.reduceAdd, Nat.reduceLT, zMo]
          have n145 : K 145 [some (.ref 0), some (.int (nI T)), some (.int (iI (mnZ 100000 F T (t + 1)))), some (.int (iI (mxZ (-100000) L T (t + 1)))), some (.int (nI (sSum (tP S) T (t + 1)))), some (.int (iI (mZ S T (t + 1)))), some (.int (zb (oneZ S T (t + 1)))), some (.int (nI t))] [] (zMo th mc (nI (tn S)) sv ty ch ixa wr om db fm fr fd fp fg fs ftx fF fL fA sF sL sW fO rw br st bs du fo) 0 0 := b145 _ _ _ _ _ (by
            simp only [zwp, oJump, oPush, oILoad, oALoad, oLLoad, oDLoad, oIStore, oAStore, oLStore, oDStore, oIinc, o_iadd, o_isub, o_imul, o_iand, o_ior, o_ixor, o_ishl, o_ishr, o_iushr, o_idiv, o_ladd, o_lsub, o_lmul, o_ldiv, o_lrem, o_ddiv, o_i2l, o_l2i, o_i2d, o_i2b, o_lcmp, o_dcmp, o_dup, o_dup2, o_pop, o_ic_eq, o_ic_ne, o_ic_lt, o_ic_ge, o_ic_gt, o_ic_le, o_if_eq, o_if_ne, o_if_lt, o_if_ge, o_if_gt, o_if_le, o_goto, oSwitch, zsw, oGetf, oPutI, oPutZ, oPutJ, oPutA, oIald, oLald, oDald, oBald, oZald, oIast, oLast, oDast, oBast, oZast, oAald, oAast, o_mmax, o_mmin, oCall, oCallM, oCallMV, oIret, oZret, oLret, oDret, oVret, oThrow, zMO, zThru, zpop, zShort, zRecv, zg, zok1, List.set_cons_zero, List.set_cons_succ, List.getElem?_cons_zero, List.getElem?_cons_succ, List.length_cons, List.length_nil, List.length_set, Option.toList_some, Option.toList_none, List.cons_append, List.nil_append, Value.category, true_and, and_true, Nat.zero_add, Nat.add_zero, Nat.le_refl, Nat.reduceAdd, Nat.reduceLT, zMo]
            rw [nI_1]
            exact iht)
          rw [mnZ, mxZ, sSum, mZ, oneZ] at n145
          rw [zb_eq0]
          refine ⟨fun hb => ?_, fun hb => b48 _ _ _ _ _ ?_⟩
          · rw [hb] at n145
            simp only [Bool.false_eq_true, if_false, Nat.zero_add] at n145
            exact n145
          · have hb : T.testBit t = true := by simpa using hb
            rw [hb] at n145
            simp only [if_true] at n145
            have n134 : ∀ q : Bool, q = (oneZ S T t && (decide (mZ S T t = -1) || decide (mZ S T t = (tM S t : Int)))) → K 134 [some (.ref 0), some (.int (nI T)), some (.int (iI (min (mnZ 100000 F T t) (F t)))), some (.int (iI (max (mxZ (-100000) L T t) (L t)))), some (.int (nI (tP S t + sSum (tP S) T t))), some (.int (iI (mZ S T t))), some (.int (zb (oneZ S T t))), some (.int (nI t))] [.int (zb q)] (zMo th mc (nI (tn S)) sv ty ch ixa wr om db fm fr fd fp fg fs ftx fF fL fA sF sL sW fO rw br st bs du fo) 0 0 := fun q hq => b134 _ _ _ _ _ (by
              simp only [zwp, oJump, oPush, oILoad, oALoad, oLLoad, oDLoad, oIStore, oAStore, oLStore, oDStore, oIinc, o_iadd, o_isub, o_imul, o_iand, o_ior, o_ixor, o_ishl, o_ishr, o_iushr, o_idiv, o_ladd, o_lsub, o_lmul, o_ldiv, o_lrem, o_ddiv, o_i2l, o_l2i, o_i2d, o_i2b, o_lcmp, o_dcmp, o_dup, o_dup2, o_pop, o_ic_eq, o_ic_ne, o_ic_lt, o_ic_ge, o_ic_gt, o_ic_le, o_if_eq, o_if_ne, o_if_lt, o_if_ge, o_if_gt, o_if_le, o_goto, oSwitch, zsw, oGetf, oPutI, oPutZ, oPutJ, oPutA, oIald, oLald, oDald, oBald, oZald, oIast, oLast, oDast, oBast, oZast, oAald, oAast, o_mmax, o_mmin, oCall, oCallM, oCallMV, oIret, oZret, oLret, oDret, oVret, oThrow, zMO, zThru, zpop, zShort, zRecv, zg, zok1, List.set_cons_zero, List.set_cons_succ, List.getElem?_cons_zero, List.getElem?_cons_succ, List.length_cons, List.length_nil, List.length_set, Option.toList_some, Option.toList_none, List.cons_append, List.nil_append, Value.category, true_and, and_true, Nat.zero_add, Nat.add_zero, Nat.le_refl, Nat.reduceAdd, Nat.reduceLT, zMo]
              rw [ct, (hP t ht).1, iI_n, hq]
              exact ⟨vt, n145⟩)
            have n133 : (oneZ S T t && (decide (mZ S T t = -1) || decide (mZ S T t = (tM S t : Int)))) = false → K 133 [some (.ref 0), some (.int (nI T)), some (.int (iI (min (mnZ 100000 F T t) (F t)))), some (.int (iI (max (mxZ (-100000) L T t) (L t)))), some (.int (nI (tP S t + sSum (tP S) T t))), some (.int (iI (mZ S T t))), some (.int (zb (oneZ S T t))), some (.int (nI t))] [] (zMo th mc (nI (tn S)) sv ty ch ixa wr om db fm fr fd fp fg fs ftx fF fL fA sF sL sW fO rw br st bs du fo) 0 0 := fun hq => b133 _ _ _ _ _ (by
              simp only [zwp, oJump, oPush, oILoad, oALoad, oLLoad, oDLoad, oIStore, oAStore, oLStore, oDStore, oIinc, o_iadd, o_isub, o_imul, o_iand, o_ior, o_ixor, o_ishl, o_ishr, o_iushr, o_idiv, o_ladd, o_lsub, o_lmul, o_ldiv, o_lrem, o_ddiv, o_i2l, o_l2i, o_i2d, o_i2b, o_lcmp, o_dcmp, o_dup, o_dup2, o_pop, o_ic_eq, o_ic_ne, o_ic_lt, o_ic_ge, o_ic_gt, o_ic_le, o_if_eq, o_if_ne, o_if_lt, o_if_ge, o_if_gt, o_if_le, o_goto, oSwitch, zsw, oGetf, oPutI, oPutZ, oPutJ, oPutA, oIald, oLald, oDald, oBald, oZald, oIast, oLast, oDast, oBast, oZast, oAald, oAast, o_mmax, o_mmin, oCall, oCallM, oCallMV, oIret, oZret, oLret, oDret, oVret, oThrow, zMO, zThru, zpop, zShort, zRecv, zg, zok1, List.set_cons_zero, List.set_cons_succ, List.getElem?_cons_zero, List.getElem?_cons_succ, List.length_cons, List.length_nil, List.length_set, Option.toList_some, Option.toList_none, List.cons_append, List.nil_append, Value.category, true_and, and_true, Nat.zero_add, Nat.add_zero, Nat.le_refl, Nat.reduceAdd, Nat.reduceLT, zMo]
              exact n134 false hq.symm)
            have n129 : (oneZ S T t && (decide (mZ S T t = -1) || decide (mZ S T t = (tM S t : Int)))) = true → K 129 [some (.ref 0), some (.int (nI T)), some (.int (iI (min (mnZ 100000 F T t) (F t)))), some (.int (iI (max (mxZ (-100000) L T t) (L t)))), some (.int (nI (tP S t + sSum (tP S) T t))), some (.int (iI (mZ S T t))), some (.int (zb (oneZ S T t))), some (.int (nI t))] [] (zMo th mc (nI (tn S)) sv ty ch ixa wr om db fm fr fd fp fg fs ftx fF fL fA sF sL sW fO rw br st bs du fo) 0 0 := fun hq => b129 _ _ _ _ _ (by
              simp only [zwp, oJump, oPush, oILoad, oALoad, oLLoad, oDLoad, oIStore, oAStore, oLStore, oDStore, oIinc, o_iadd, o_isub, o_imul, o_iand, o_ior, o_ixor, o_ishl, o_ishr, o_iushr, o_idiv, o_ladd, o_lsub, o_lmul, o_ldiv, o_lrem, o_ddiv, o_i2l, o_l2i, o_i2d, o_i2b, o_lcmp, o_dcmp, o_dup, o_dup2, o_pop, o_ic_eq, o_ic_ne, o_ic_lt, o_ic_ge, o_ic_gt, o_ic_le, o_if_eq, o_if_ne, o_if_lt, o_if_ge, o_if_gt, o_if_le, o_goto, oSwitch, zsw, oGetf, oPutI, oPutZ, oPutJ, oPutA, oIald, oLald, oDald, oBald, oZald, oIast, oLast, oDast, oBast, oZast, oAald, oAast, o_mmax, o_mmin, oCall, oCallM, oCallMV, oIret, oZret, oLret, oDret, oVret, oThrow, zMO, zThru, zpop, zShort, zRecv, zg, zok1, List.set_cons_zero, List.set_cons_succ, List.getElem?_cons_zero, List.getElem?_cons_succ, List.length_cons, List.length_nil, List.length_set, Option.toList_some, Option.toList_none, List.cons_append, List.nil_append, Value.category, true_and, and_true, Nat.zero_add, Nat.add_zero, Nat.le_refl, Nat.reduceAdd, Nat.reduceLT, zMo]
              exact n134 true hq.symm)
            have n93 : K 93 [some (.ref 0), some (.int (nI T)), some (.int (iI (min (mnZ 100000 F T t) (F t)))), some (.int (iI (mxZ (-100000) L T t))), some (.int (nI (sSum (tP S) T t))), some (.int (iI (mZ S T t))), some (.int (zb (oneZ S T t))), some (.int (nI t))] [.int (iI (max (mxZ (-100000) L T t) (L t)))] (zMo th mc (nI (tn S)) sv ty ch ixa wr om db fm fr fd fp fg fs ftx fF fL fA sF sL sW fO rw br st bs du fo) 0 0 := b93 _ _ _ _ _ (by
              simp only [zwp, oJump, oPush, oILoad, oALoad, oLLoad, oDLoad, oIStore, oAStore, oLStore, oDStore, oIinc, o_iadd, o_isub, o_imul, o_iand, o_ior, o_ixor, o_ishl, o_ishr, o_iushr, o_idiv, o_ladd, o_lsub, o_lmul, o_ldiv, o_lrem, o_ddiv, o_i2l, o_l2i, o_i2d, o_i2b, o_lcmp, o_dcmp, o_dup, o_dup2, o_pop, o_ic_eq, o_ic_ne, o_ic_lt, o_ic_ge, o_ic_gt, o_ic_le, o_if_eq, o_if_ne, o_if_lt, o_if_ge, o_if_gt, o_if_le, o_goto, oSwitch, zsw, oGetf, oPutI, oPutZ, oPutJ, oPutA, oIald, oLald, oDald, oBald, oZald, oIast, oLast, oDast, oBast, oZast, oAald, oAast, o_mmax, o_mmin, oCall, oCallM, oCallMV, oIret, oZret, oLret, oDret, oVret, oThrow, zMO, zThru, zpop, zShort, zRecv, zg, zok1, List.set_cons_zero, List.set_cons_succ, List.getElem?_cons_zero, List.getElem?_cons_succ, List.length_cons, List.length_nil, List.length_set, Option.toList_some, Option.toList_none, List.cons_append, List.nil_append, Value.category, true_and, and_true, Nat.zero_add, Nat.add_zero, Nat.le_refl, Nat.reduceAdd, Nat.reduceLT, zMo]
              rw [ct, (hP t ht).2, nI_add, Nat.add_comm]
              refine ⟨vt, fun h1 => n133 (by rw [(zb_eq0 _).mp h1]; rfl), fun h1 => b111 _ _ _ _ _ ?_⟩
              rw [zb_ne0] at h1
              simp only [zwp, oJump, oPush, oILoad, oALoad, oLLoad, oDLoad, oIStore, oAStore, oLStore, oDStore, oIinc, o_iadd, o_isub, o_imul, o_iand, o_ior, o_ixor, o_ishl, o_ishr, o_iushr, o_idiv, o_ladd, o_lsub, o_lmul, o_ldiv, o_lrem, o_ddiv, o_i2l, o_l2i, o_i2d, o_i2b, o_lcmp, o_dcmp, o_dup, o_dup2, o_pop, o_ic_eq, o_ic_ne, o_ic_lt, o_ic_ge, o_ic_gt, o_ic_le, o_if_eq, o_if_ne, o_if_lt, o_if_ge, o_if_gt, o_if_le, o_goto, oSwitch, zsw, oGetf, oPutI, oPutZ, oPutJ, oPutA, oIald, oLald, oDald, oBald, oZald, oIast, oLast, oDast, oBast, oZast, oAald, oAast, o_mmax, o_mmin, oCall, oCallM, oCallMV, oIret, oZret, oLret, oDret, oVret, oThrow, zMO, zThru, zpop, zShort, zRecv, zg, zok1, List.set_cons_zero, List.set_cons_succ, List.getElem?_cons_zero, List.getElem?_cons_succ, List.length_cons, List.length_nil, List.length_set, Option.toList_some, Option.toList_none, List.cons_append, List.nil_append, Value.category, true_and, and_true, Nat.zero_add, Nat.add_zero, Nat.le_refl, Nat.reduceAdd, Nat.reduceLT, zMo]
              rw [show (-1 : Int32) = iI (-1) from rfl, iI_eq (in32 (by omega) (by omega)) (in32 (by omega) (by omega))]
              refine ⟨fun h2 => n129 (by rw [h1, decide_eq_true h2]; rfl), fun h2 => b117 _ _ _ _ _ ?_⟩
              simp only [zwp, oJump, oPush, oILoad, oALoad, oLLoad, oDLoad, oIStore, oAStore, oLStore, oDStore, oIinc, o_iadd, o_isub, o_imul, o_iand, o_ior, o_ixor, o_ishl, o_ishr, o_iushr, o_idiv, o_ladd, o_lsub, o_lmul, o_ldiv, o_lrem, o_ddiv, o_i2l, o_l2i, o_i2d, o_i2b, o_lcmp, o_dcmp, o_dup, o_dup2, o_pop, o_ic_eq, o_ic_ne, o_ic_lt, o_ic_ge, o_ic_gt, o_ic_le, o_if_eq, o_if_ne, o_if_lt, o_if_ge, o_if_gt, o_if_le, o_goto, oSwitch, zsw, oGetf, oPutI, oPutZ, oPutJ, oPutA, oIald, oLald, oDald, oBald, oZald, oIast, oLast, oDast, oBast, oZast, oAald, oAast, o_mmax, o_mmin, oCall, oCallM, oCallMV, oIret, oZret, oLret, oDret, oVret, oThrow, zMO, zThru, zpop, zShort, zRecv, zg, zok1, List.set_cons_zero, List.set_cons_succ, List.getElem?_cons_zero, List.getElem?_cons_succ, List.length_cons, List.length_nil, List.length_set, Option.toList_some, Option.toList_none, List.cons_append, List.nil_append, Value.category, true_and, and_true, Nat.zero_add, Nat.add_zero, Nat.le_refl, Nat.reduceAdd, Nat.reduceLT, zMo]
              rw [ct, (hP t ht).1, iI_n (tM S t), iI_eq (in32 (by omega) (by omega)) (in32 (by omega) (by omega))]
              refine ⟨vt, fun h3 => n133 (by rw [decide_eq_false h2, decide_eq_false h3]; simp), fun h3 => n129 ?_⟩
              rw [Classical.not_not] at h3
              rw [h1, decide_eq_true h3]; simp)
            have n70 : K 70 [some (.ref 0), some (.int (nI T)), some (.int (iI (mnZ 100000 F T t))), some (.int (iI (mxZ (-100000) L T t))), some (.int (nI (sSum (tP S) T t))), some (.int (iI (mZ S T t))), some (.int (zb (oneZ S T t))), some (.int (nI t))] [.int (iI (min (mnZ 100000 F T t) (F t)))] (zMo th mc (nI (tn S)) sv ty ch ixa wr om db fm fr fd fp fg fs ftx fF fL fA sF sL sW fO rw br st bs du fo) 0 0 := b70 _ _ _ _ _ (by
              simp only [zwp, oJump, oPush, oILoad, oALoad, oLLoad, oDLoad, oIStore, oAStore, oLStore, oDStore, oIinc, o_iadd, o_isub, o_imul, o_iand, o_ior, o_ixor, o_ishl, o_ishr, o_iushr, o_idiv, o_ladd, o_lsub, o_lmul, o_ldiv, o_lrem, o_ddiv, o_i2l, o_l2i, o_i2d, o_i2b, o_lcmp, o_dcmp, o_dup, o_dup2, o_pop, o_ic_eq, o_ic_ne, o_ic_lt, o_ic_ge, o_ic_gt, o_ic_le, o_if_eq, o_if_ne, o_if_lt, o_if_ge, o_if_gt, o_if_le, o_goto, oSwitch, zsw, oGetf, oPutI, oPutZ, oPutJ, oPutA, oIald, oLald, oDald, oBald, oZald, oIast, oLast, oDast, oBast, oZast, oAald, oAast, o_mmax, o_mmin, oCall, oCallM, oCallMV, oIret, oZret, oLret, oDret, oVret, oThrow, zMO, zThru, zpop, zShort, zRecv, zg, zok1, List.set_cons_zero, List.set_cons_succ, List.getElem?_cons_zero, List.getElem?_cons_succ, List.length_cons, List.length_nil, List.length_set, Option.toList_some, Option.toList_none, List.cons_append, List.nil_append, Value.category, true_and, and_true, Nat.zero_add, Nat.add_zero, Nat.le_refl, Nat.reduceAdd, Nat.reduceLT, zMo]
              rw [ct, e2, iI_le (in32 (by omega) (by omega)) (in32 (by omega) (by omega))]
              refine ⟨vt, fun h1 => b92 _ _ _ _ _ ?_, fun h1 => b82 _ _ _ _ _ ?_⟩
              · simp only [zwp, oJump, oPush, oILoad, oALoad, oLLoad, oDLoad, oIStore, oAStore, oLStore, oDStore, oIinc, o_iadd, o_isub, o_imul, o_iand, o_ior, o_ixor, o_ishl, o_ishr, o_iushr, o_idiv, o_ladd, o_lsub, o_lmul, o_ldiv, o_lrem, o_ddiv, o_i2l, o_l2i, o_i2d, o_i2b, o_lcmp, o_dcmp, o_dup, o_dup2, o_pop, o_ic_eq, o_ic_ne, o_ic_lt, o_ic_ge, o_ic_gt, o_ic_le, o_if_eq, o_if_ne, o_if_lt, o_if_ge, o_if_gt, o_if_le, o_goto, oSwitch, zsw, oGetf, oPutI, oPutZ, oPutJ, oPutA, oIald, oLald, oDald, oBald, oZald, oIast, oLast, oDast, oBast, oZast, oAald, oAast, o_mmax, o_mmin, oCall, oCallM, oCallMV, oIret, oZret, oLret, oDret, oVret, oThrow, zMO, zThru, zpop, zShort, zRecv, zg, zok1, List.set_cons_zero, List.set_cons_succ, List.getElem?_cons_zero, List.getElem?_cons_succ, List.length_cons, List.length_nil, List.length_set, Option.toList_some, Option.toList_none, List.cons_append, List.nil_append, Value.category, true_and, and_true, Nat.zero_add, Nat.add_zero, Nat.le_refl, Nat.reduceAdd, Nat.reduceLT, zMo]
                rw [show max (mxZ (-100000) L T t) (L t) = mxZ (-100000) L T t by omega] at n93
                exact n93
              · simp only [zwp, oJump, oPush, oILoad, oALoad, oLLoad, oDLoad, oIStore, oAStore, oLStore, oDStore, oIinc, o_iadd, o_isub, o_imul, o_iand, o_ior, o_ixor, o_ishl, o_ishr, o_iushr, o_idiv, o_ladd, o_lsub, o_lmul, o_ldiv, o_lrem, o_ddiv, o_i2l, o_l2i, o_i2d, o_i2b, o_lcmp, o_dcmp, o_dup, o_dup2, o_pop, o_ic_eq, o_ic_ne, o_ic_lt, o_ic_ge, o_ic_gt, o_ic_le, o_if_eq, o_if_ne, o_if_lt, o_if_ge, o_if_gt, o_if_le, o_goto, oSwitch, zsw, oGetf, oPutI, oPutZ, oPutJ, oPutA, oIald, oLald, oDald, oBald, oZald, oIast, oLast, oDast, oBast, oZast, oAald, oAast, o_mmax, o_mmin, oCall, oCallM, oCallMV, oIret, oZret, oLret, oDret, oVret, oThrow, zMO, zThru, zpop, zShort, zRecv, zg, zok1, List.set_cons_zero, List.set_cons_succ, List.getElem?_cons_zero, List.getElem?_cons_succ, List.length_cons, List.length_nil, List.length_set, Option.toList_some, Option.toList_none, List.cons_append, List.nil_append, Value.category, true_and, and_true, Nat.zero_add, Nat.add_zero, Nat.le_refl, Nat.reduceAdd, Nat.reduceLT, zMo]
                rw [ct, e2]
                rw [show max (mxZ (-100000) L T t) (L t) = L t by omega] at n93
                exact ⟨vt, n93⟩)
            simp only [zwp, oJump, oPush, oILoad, oALoad, oLLoad, oDLoad, oIStore, oAStore, oLStore, oDStore, oIinc, o_iadd, o_isub, o_imul, o_iand, o_ior, o_ixor, o_ishl, o_ishr, o_iushr, o_idiv, o_ladd, o_lsub, o_lmul, o_ldiv, o_lrem, o_ddiv, o_i2l, o_l2i, o_i2d, o_i2b, o_lcmp, o_dcmp, o_dup, o_dup2, o_pop, o_ic_eq, o_ic_ne, o_ic_lt, o_ic_ge, o_ic_gt, o_ic_le, o_if_eq, o_if_ne, o_if_lt, o_if_ge, o_if_gt, o_if_le, o_goto, oSwitch, zsw, oGetf, oPutI, oPutZ, oPutJ, oPutA, oIald, oLald, oDald, oBald, oZald, oIast, oLast, oDast, oBast, oZast, oAald, oAast, o_mmax, o_mmin, oCall, oCallM, oCallMV, oIret, oZret, oLret, oDret, oVret, oThrow, zMO, zThru, zpop, zShort, zRecv, zg, zok1, List.set_cons_zero, List.set_cons_succ, List.getElem?_cons_zero, List.getElem?_cons_succ, List.length_cons, List.length_nil, List.length_set, Option.toList_some, Option.toList_none, List.cons_append, List.nil_append, Value.category, true_and, and_true, Nat.zero_add, Nat.add_zero, Nat.le_refl, Nat.reduceAdd, Nat.reduceLT, zMo]
            rw [ct, e1, iI_le (in32 (by omega) (by omega)) (in32 (by omega) (by omega))]
            refine ⟨vt, fun h1 => b69 _ _ _ _ _ ?_, fun h1 => b59 _ _ _ _ _ ?_⟩
            · simp only [zwp, oJump, oPush, oILoad, oALoad, oLLoad, oDLoad, oIStore, oAStore, oLStore, oDStore, oIinc, o_iadd, o_isub, o_imul, o_iand, o_ior, o_ixor, o_ishl, o_ishr, o_iushr, o_idiv, o_ladd, o_lsub, o_lmul, o_ldiv, o_lrem, o_ddiv, o_i2l, o_l2i, o_i2d, o_i2b, o_lcmp, o_dcmp, o_dup, o_dup2, o_pop, o_ic_eq, o_ic_ne, o_ic_lt, o_ic_ge, o_ic_gt, o_ic_le, o_if_eq, o_if_ne, o_if_lt, o_if_ge, o_if_gt, o_if_le, o_goto, oSwitch, zsw, oGetf, oPutI, oPutZ, oPutJ, oPutA, oIald, oLald, oDald, oBald, oZald, oIast, oLast, oDast, oBast, oZast, oAald, oAast, o_mmax, o_mmin, oCall, oCallM, oCallMV, oIret, oZret, oLret, oDret, oVret, oThrow, zMO, zThru, zpop, zShort, zRecv, zg, zok1, List.set_cons_zero, List.set_cons_succ, List.getElem?_cons_zero, List.getElem?_cons_succ, List.length_cons, List.length_nil, List.length_set, Option.toList_some, Option.toList_none, List.cons_append, List.nil_append, Value.category, true_and, and_true, Nat.zero_add, Nat.add_zero, Nat.le_refl, Nat.reduceAdd, Nat.reduceLT, zMo]
              rw [show min (mnZ 100000 F T t) (F t) = mnZ 100000 F T t by omega] at n70
              exact n70
            · simp only [zwp, oJump, oPush, oILoad, oALoad, oLLoad, oDLoad, oIStore, oAStore, oLStore, oDStore, oIinc, o_iadd, o_isub, o_imul, o_iand, o_ior, o_ixor, o_ishl, o_ishr, o_iushr, o_idiv, o_ladd, o_lsub, o_lmul, o_ldiv, o_lrem, o_ddiv, o_i2l, o_l2i, o_i2d, o_i2b, o_lcmp, o_dcmp, o_dup, o_dup2, o_pop, o_ic_eq, o_ic_ne, o_ic_lt, o_ic_ge, o_ic_gt, o_ic_le, o_if_eq, o_if_ne, o_if_lt, o_if_ge, o_if_gt, o_if_le, o_goto, oSwitch, zsw, oGetf, oPutI, oPutZ, oPutJ, oPutA, oIald, oLald, oDald, oBald, oZald, oIast, oLast, oDast, oBast, oZast, oAald, oAast, o_mmax, o_mmin, oCall, oCallM, oCallMV, oIret, oZret, oLret, oDret, oVret, oThrow, zMO, zThru, zpop, zShort, zRecv, zg, zok1, List.set_cons_zero, List.set_cons_succ, List.getElem?_cons_zero, List.getElem?_cons_succ, List.length_cons, List.length_nil, List.length_set, Option.toList_some, Option.toList_none, List.cons_append, List.nil_append, Value.category, true_and, and_true, Nat.zero_add, Nat.add_zero, Nat.le_refl, Nat.reduceAdd, Nat.reduceLT, zMo]
              rw [ct, e1]
              rw [show min (mnZ 100000 F T t) (F t) = F t by omega] at n70
              exact ⟨vt, n70⟩
      exact inner 0 (by omega)
  refine b0 _ _ _ _ _ ?_
  simp only [zwp, oJump, oPush, oILoad, oALoad, oLLoad, oDLoad, oIStore, oAStore, oLStore, oDStore, oIinc, o_iadd, o_isub, o_imul, o_iand, o_ior, o_ixor, o_ishl, o_ishr, o_iushr, o_idiv, o_ladd, o_lsub, o_lmul, o_ldiv, o_lrem, o_ddiv, o_i2l, o_l2i, o_i2d, o_i2b, o_lcmp, o_dcmp, o_dup, o_dup2, o_pop, o_ic_eq, o_ic_ne, o_ic_lt, o_ic_ge, o_ic_gt, o_ic_le, o_if_eq, o_if_ne, o_if_lt, o_if_ge, o_if_gt, o_if_le, o_goto, oSwitch, zsw, oGetf, oPutI, oPutZ, oPutJ, oPutA, oIald, oLald, oDald, oBald, oZald, oIast, oLast, oDast, oBast, oZast, oAald, oAast, o_mmax, o_mmin, oCall, oCallM, oCallMV, oIret, oZret, oLret, oDret, oVret, oThrow, zMO, zThru, zpop, zShort, zRecv, zg, zok1, List.set_cons_zero, List.set_cons_succ, List.getElem?_cons_zero, List.getElem?_cons_succ, List.length_cons, List.length_nil, List.length_set, Option.toList_some, Option.toList_none, List.cons_append, List.nil_append, Value.category, true_and, and_true, Nat.zero_add, Nat.add_zero, Nat.le_refl, Nat.reduceAdd, Nat.reduceLT, zMo]
  exact outer 1 (Nat.one_le_two_pow) (Nat.le_refl _) sF sL sW fO (fun T' h0 hT' => absurd hT' (by omega))
end MO2
