/-! PLANT, 2 -/
section PL2
/-- one round of following the given precedences -/
def jw (G : Nat → Nat) (R : Nat) : Nat → Nat
  | 0 => R
  | t + 1 => if R.testBit t then jw G R t ||| G t else jw G R t
def jr (G : Nat → Nat) (n x : Nat) : Nat → Nat
  | 0 => G x
  | k + 1 => jw G (jr G n x k) n
theorem jw_lt {G : Nat → Nat} {R m : Nat} (hR : R < 2 ^ m) : ∀ n, (∀ t, t < n → G t < 2 ^ m) → jw G R n < 2 ^ m
  | 0, _ => hR
  | n + 1, h => by
    have := jw_lt (G := G) hR n (fun t ht => h t (by omega))
    rw [jw]
    split
    · exact Nat.or_lt_two_pow this (h n (by omega))
    · exact this
theorem jw_sub {G : Nat → Nat} {R : Nat} : ∀ n, Sub R (jw G R n)
  | 0 => Sub.rf R
  | n + 1 => by
    have := jw_sub (G := G) (R := R) n
    rw [jw]
    split
    · exact this.tr (Sub_or_l _ _)
    · exact this
theorem jw_in {G : Nat → Nat} {R t : Nat} (ht : R.testBit t = true) : ∀ n, t < n → Sub (G t) (jw G R n)
  | 0, h => absurd h (Nat.not_lt_zero _)
  | n + 1, h => by
    rw [jw]
    by_cases hn : t = n
    · subst hn
      rw [if_pos ht]; exact Sub_or_r _ _
    · have := jw_in (G := G) ht n (by omega)
      split
      · exact this.tr (Sub_or_l _ _)
      · exact this
theorem jw_le {G : Nat → Nat} {R C : Nat} (hR : Sub R C) : ∀ n, (∀ t, t < n → C.testBit t = true → Sub (G t) C) → Sub (jw G R n) C
  | 0, _ => hR
  | n + 1, h => by
    have := jw_le (G := G) hR n (fun t ht => h t (by omega))
    rw [jw]
    split
    · rename_i hb
      exact Sub_or this (h n (by omega) (hR n hb))
    · exact this
theorem jr_reach {G : Nat → Nat} {n x : Nat} (hx : x < n) (hG : ∀ t, t < n → G t < 2 ^ n) : IsReach n G x (jr G n x n) := by
  have hlt : ∀ k, jr G n x k < 2 ^ n := by
    intro k
    induction k with
    | zero => exact hG x hx
    | succ k ih => exact jw_lt ih n hG
  have hsub : ∀ k, Sub (jr G n x k) (jr G n x (k + 1)) := fun k => jw_sub n
  refine ⟨?_, grow_closed hG (r := jr G n x) (hlt 0) hsub hlt (fun k t ht hb => jw_in hb n ht) (fun k h => by rw [jr, h, ← jr, h]), ?_⟩
  · have : ∀ k, Sub (G x) (jr G n x k) := by
      intro k
      induction k with
      | zero => exact Sub.rf _
      | succ k ih => exact ih.tr (hsub k)
    exact this n
  · intro R' h1 h2
    have : ∀ k, Sub (jr G n x k) R' := by
      intro k
      induction k with
      | zero => exact h1
      | succ k ih => exact jw_le ih n h2
    exact this n
/-- whether a row of given precedences leads from one task to another -/
def rr (S : TS) (x : Nat) : Nat := jr (tG S) (tn S) x (tn S)
theorem rr_reach {S : TS} {mc x : Nat} (hok : TSok S mc) (hx : x < tn S) : IsReach (tn S) (tG S) x (rr S x) := jr_reach hx (fun t ht => (hok.2.2.2 t ht).2.2.2.2.2.2)
variable {l : Launch}
set_option maxRecDepth 100000 in
theorem c_leads (hfl : l.stackTraces = false) {S : TS} {mc : Nat} (hok : TSok S mc) {fm fr fd fp fa fb : Nat → Int32} (hR : PlR S fm fr fd fp fa fb) {a b : Nat} (ha : a < tn S) (hb : b < tn S) : Can l yX5_leads wsX5_leads 1 0 0 [.ref 0, .int (nI a), .int (nI b)] (zPl mc (tn S) fm fr fd fp fa fb) (fun o w' => o = .inl (some (.int (zb ((rr S a).testBit b)))) ∧ w' = zPl mc (tn S) fm fr fd fp fa fb) := by
  have hok' := hok
  obtain ⟨hn, -, -, hok⟩ := hok
  have hG : ∀ t, t < tn S → tG S t < 256 := fun t ht => two8 (hok t ht).2.2.2.2.2.2 hn
  have hjw : ∀ R t, R < 256 → t ≤ tn S → jw (tG S) R t < 256 := fun R t h1 h2 => jw_lt (m := 8) h1 t (fun u hu => hG u (by omega))
  have hjr : ∀ k, jr (tG S) (tn S) a k < 256 := by
    intro k
    induction k with
    | zero => exact hG a ha
    | succ k ih => exact hjw _ _ ih (Nat.le_refl _)
  refine zm_X5_leads hfl ?_
  intro K wk b0 b10 b19 b25 b34 b43 b55 b61 b70
  have outer : ∀ k, k ≤ tn S → K 10 [some (.ref 0), some (.int (nI a)), some (.int (nI b)), some (.int (nI (jr (tG S) (tn S) a k))), some (.int (nI k)), none, none] [] (zPl mc (tn S) fm fr fd fp fa fb) 0 0 := by
    refine zdown _ _ (b10 _ _ _ _ _ ?_) (fun k hk ih => b10 _ _ _ _ _ ?_)
    · simp only [zwp, oJump, oPush, oILoad, oALoad, oLLoad, oDLoad, oIStore, oAStore, oLStore, oDStore, oIinc, o_iadd, o_isub, o_imul, o_iand, o_ior, o_ixor, o_ishl, o_ishr, o_iushr, o_idiv, o_ladd, o_lsub, o_lmul, o_ldiv, o_lrem, o_ddiv, o_i2l, o_l2i, o_i2d, o_i2b, o_lcmp, o_dcmp, o_dup, o_dup2, o_pop, o_ic_eq, o_ic_ne, o_ic_lt, o_ic_ge, o_ic_gt, o_ic_le, o_if_eq, o_if_ne, o_if_lt, o_if_ge, o_if_gt, o_if_le, o_goto, oSwitch, zsw, oGetf, oPutI, oPutZ, oPutJ, oPutA, oIald, oLald, oDald, oBald, oZald, oIast, oLast, oDast, oBast, oZast, oAald, oAast, o_mmax, o_mmin, oCall, oCallM, oCallMV, oIret, oZret, oLret, oDret, oVret, oThrow, zMO, zThru, zpop, zShort, zRecv, zg, zok1, List.set_cons_zero, List.set_cons_succ, List.getElem?_cons_zero, List.getElem?_cons_succ, List.length_cons, List.length_nil, List.length_set, Option.toList_some, Option.toList_none, List.cons_append, List.nil_append, Value.category, true_and, and_true, Nat.zero_add, Nat.add_zero, Nat.le_refl, Nat.reduceAdd, Nat.reduceLT, zPl, zPl2]
      refine ⟨fun _ => b70 _ _ _ _ _ ?_, fun h => absurd (Int32.le_refl _) h⟩
      simp only [zwp, oJump, oPush, oILoad, oALoad, oLLoad, oDLoad, oIStore, oAStore, oLStore, oDStore, oIinc, o_iadd, o_isub, o_imul, o_iand, o_ior, o_ixor, o_ishl, o_ishr, o_iushr, o_idiv, o_ladd, o_lsub, o_lmul, o_ldiv, o_lrem, o_ddiv, o_i2l, o_l2i, o_i2d, o_i2b, o_lcmp, o_dcmp, o_dup, o_dup2, o_pop, o_ic_eq, o_ic_ne, o_ic_lt, o_ic_ge, o_ic_gt, o_ic_le, o_if_eq, o_if_ne, o_if_lt, o_if_ge, o_if_gt, o_if_le, o_goto, oSwitch, zsw, oGetf, oPutI, oPutZ, oPutJ, oPutA, oIald, oLald, oDald, oBald, oZald, oIast, oLast, oDast, oBast, oZast, oAald, oAast, o_mmax, o_mmin, oCall, oCallM, oCallMV, oIret, oZret, oLret, oDret, oVret, oThrow, zMO, zThru, zpop, zShort, zRecv, zg, zok1, List.set_cons_zero, List.set_cons_succ, List.getElem?_cons_zero, List.getElem?_cons_succ, List.length_cons, List.length_nil, List.length_set, Option.toList_some, Option.toList_none, List.cons_append, List.nil_append, Value.category, true_and, and_true, Nat.zero_add, Nat.add_zero, Nat.le_refl, Nat.reduceAdd, Nat.reduceLT, zPl, zPl2]
      refine ⟨_, 0, 0, ⟨by decide, by omega, by omega⟩, CanM.mono (c_contains hfl (by have := hjr (tn S); omega) (by omega) _) ?_⟩
      rintro r w' ⟨rfl, rfl⟩
      simp only [zwp, oJump, oPush, oILoad, oALoad, oLLoad, oDLoad, oIStore, oAStore, oLStore, oDStore, oIinc, o_iadd, o_isub, o_imul, o_iand, o_ior, o_ixor, o_ishl, o_ishr, o_iushr, o_idiv, o_ladd, o_lsub, o_lmul, o_ldiv, o_lrem, o_ddiv, o_i2l, o_l2i, o_i2d, o_i2b, o_lcmp, o_dcmp, o_dup, o_dup2, o_pop, o_ic_eq, o_ic_ne, o_ic_lt, o_ic_ge, o_ic_gt, o_ic_le, o_if_eq, o_if_ne, o_if_lt, o_if_ge, o_if_gt, o_if_le, o_goto, oSwitch, zsw, oGetf, oPutI, oPutZ, oPutJ, oPutA, oIald, oLald, oDald, oBald, oZald, oIast, oLast, oDast, oBast, oZast, oAald, oAast, o_mmax, o_mmin, oCall, oCallM, oCallMV, oIret, oZret, oLret, oDret, oVret, oThrow, zMO, zThru, zpop, zShort, zRecv, zg, zok1, List.set_cons_zero, List.set_cons_succ, List.getElem?_cons_zero, List.getElem?_cons_succ, List.length_cons, List.length_nil, List.length_set, Option.toList_some, Option.toList_none, List.cons_append, List.nil_append, Value.category, true_and, and_true, Nat.zero_add, Nat.add_zero, Nat.le_refl, Nat.reduceAdd, Nat.reduceLT, zPl, zPl2]
      exact ⟨zb_01 _, rfl⟩
    · simp only [zwp, oJump, oPush, oILoad, oALoad, oLLoad, oDLoad, oIStore, oAStore, oLStore, oDStore, oIinc, o_iadd, o_isub, o_imul, o_iand, o_ior, o_ixor, o_ishl, o_ishr, o_iushr, o_idiv, o_ladd, o_lsub, o_lmul, o_ldiv, o_lrem, o_ddiv, o_i2l, o_l2i, o_i2d, o_i2b, o_lcmp, o_dcmp, o_dup, o_dup2, o_pop, o_ic_eq, o_ic_ne, o_ic_lt, o_ic_ge, o_ic_gt, o_ic_le, o_if_eq, o_if_ne, o_if_lt, o_if_ge, o_if_gt, o_if_le, o_goto, oSwitch, zsw, oGetf, oPutI, oPutZ, oPutJ, oPutA, oIald, oLald, oDald, oBald, oZald, oIast, oLast, oDast, oBast, oZast, oAald, oAast, o_mmax, o_mmin, oCall, oCallM, oCallMV, oIret, oZret, oLret, oDret, oVret, oThrow, zMO, zThru, zpop, zShort, zRecv, zg, zok1, List.set_cons_zero, List.set_cons_succ, List.getElem?_cons_zero, List.getElem?_cons_succ, List.length_cons, List.length_nil, List.length_set, Option.toList_some, Option.toList_none, List.cons_append, List.nil_append, Value.category, true_and, and_true, Nat.zero_add, Nat.add_zero, Nat.le_refl, Nat.reduceAdd, Nat.reduceLT, zPl, zPl2]
      refine ⟨fun h => absurd ((nI_leI (by omega) (by omega)).mp h) (by omega), fun _ => b19 _ _ _ _ _ ?_⟩
      simp only [zwp, oJump, oPush, oILoad, oALoad, oLLoad, oDLoad, oIStore, oAStore, oLStore, oDStore, oIinc, o_iadd, o_isub, o_imul, o_iand, o_ior, o_ixor, o_ishl, o_ishr, o_iushr, o_idiv, o_ladd, o_lsub, o_lmul, o_ldiv, o_lrem, o_ddiv, o_i2l, o_l2i, o_i2d, o_i2b, o_lcmp, o_dcmp, o_dup, o_dup2, o_pop, o_ic_eq, o_ic_ne, o_ic_lt, o_ic_ge, o_ic_gt, o_ic_le, o_if_eq, o_if_ne, o_if_lt, o_if_ge, o_if_gt, o_if_le, o_goto, oSwitch, zsw, oGetf, oPutI, oPutZ, oPutJ, oPutA, oIald, oLald, oDald, oBald, oZald, oIast, oLast, oDast, oBast, oZast, oAald, oAast, o_mmax, o_mmin, oCall, oCallM, oCallMV, oIret, oZret, oLret, oDret, oVret, oThrow, zMO, zThru, zpop, zShort, zRecv, zg, zok1, List.set_cons_zero, List.set_cons_succ, List.getElem?_cons_zero, List.getElem?_cons_succ, List.length_cons, List.length_nil, List.length_set, Option.toList_some, Option.toList_none, List.cons_append, List.nil_append, Value.category, true_and, and_true, Nat.zero_add, Nat.add_zero, Nat.le_refl, Nat.reduceAdd, Nat.reduceLT, zPl, zPl2]
      have inner : ∀ t, t ≤ tn S → K 25 [some (.ref 0), some (.int (nI a)), some (.int (nI b)), some (.int (nI (jr (tG S) (tn S) a k))), some (.int (nI k)), some (.int (nI (jw (tG S) (jr (tG S) (tn S) a k) t))), some (.int (nI t))] [] (zPl mc (tn S) fm fr fd fp fa fb) 0 0 := by
        refine zdown _ _ (b25 _ _ _ _ _ ?_) (fun t ht iht => b25 _ _ _ _ _ ?_)
        · simp only [zwp, oJump, oPush, oILoad, oALoad, oLLoad, oDLoad, oIStore, oAStore, oLStore, oDStore, oIinc, o_iadd, o_isub, o_imul, o_iand, o_ior, o_ixor, o_ishl, o_ishr, o_iushr, o_idiv, o_ladd, o_lsub, o_lmul, o_ldiv, o_lrem, o_ddiv, o_i2l, o_l2i, o_i2d, o_i2b, o_lcmp, o_dcmp, o_dup, o_dup2, o_pop, o_ic_eq, o_ic_ne, o_ic_lt, o_ic_ge, o_ic_gt, o_ic_le, o_if_eq, o_if_ne, o_if_lt, o_if_ge, o_if_gt, o_if_le, o_goto, oSwitch, zsw, oGetf, oPutI, oPutZ, oPutJ, oPutA, oIald, oLald, oDald, oBald, oZald, oIast, oLast, oDast, oBast, oZast, oAald, oAast, o_mmax, o_mmin, oCall, oCallM, oCallMV, oIret, oZret, oLret, oDret, oVret, oThrow, zMO, zThru, zpop, zShort, zRecv, zg, zok1, List.set_cons_zero, List.set_cons_succ, List.getElem?_cons_zero, List.getElem?_cons_succ, List.length_cons, List.length_nil, List.length_set, Option.toList_some, Option.toList_none, List.cons_append, List.nil_append, Value.category, true_and, and_true, Nat.zero_add, Nat.add_zero, Nat.le_refl, Nat.reduceAdd, Nat.reduceLT, zPl, zPl2]
          refine ⟨fun _ => b61 _ _ _ _ _ ?_, fun h => absurd (Int32.le_refl _) h⟩
          simp only [zwp, oJump, oPush, oILoad, oALoad, oLLoad, oDLoad, oIStore, oAStore, oLStore, oDStore, oIinc, o_iadd, o_isub, o_imul, o_iand, o_ior, o_ixor, o_ishl, o_ishr, o_iushr, o_idiv, o_ladd, o_lsub, o_lmul, o_ldiv, o_lrem, o_ddiv, o_i2l, o_l2i, o_i2d, o_i2b, o_lcmp, o_dcmp, o_dup, o_dup2, o_pop, o_ic_eq, o_ic_ne, o_ic_lt, o_ic_ge, o_ic_gt, o_ic_le, o_if_eq, o_if_ne, o_if_lt, o_if_ge, o_if_gt, o_if_le, o_goto, oSwitch, zsw, oGetf, oPutI, oPutZ, oPutJ, oPutA, oIald, oLald, oDald, oBald, oZald, oIast, oLast, oDast, oBast, oZast, oAald, oAast, o_mmax, o_mmin, oCall, oCallM, oCallMV, oIret, oZret, oLret, oDret, oVret, oThrow, zMO, zThru, zpop, zShort, zRecv, zg, zok1, List.set_cons_zero, List.set_cons_succ, List.getElem?_cons_zero, List.getElem?_cons_succ, List.length_cons, List.length_nil, List.length_set, Option.toList_some, Option.toList_none, List.cons_append, List.nil_append, Value.category, true_and, and_true, Nat.zero_add, Nat.add_zero, Nat.le_refl, Nat.reduceAdd, Nat.reduceLT, zPl, zPl2]
          rw [nI_1]
          exact wk _ _ _ _ _ _ _ (by simp [zsub, jr]) ih
        · simp only [zwp, oJump, oPush, oILoad, oALoad, oLLoad, oDLoad, oIStore, oAStore, oLStore, oDStore, oIinc, o_iadd, o_isub, o_imul, o_iand, o_ior, o_ixor, o_ishl, o_ishr, o_iushr, o_idiv, o_ladd, o_lsub, o_lmul, o_ldiv, o_lrem, o_ddiv, o_i2l, o_l2i, o_i2d, o_i2b, o_lcmp, o_dcmp, o_dup, o_dup2, o_pop, o_ic_eq, o_ic_ne, o_ic_lt, o_ic_ge, o_ic_gt, o_ic_le, o_if_eq, o_if_ne, o_if_lt, o_if_ge, o_if_gt, o_if_le, o_goto, oSwitch, zsw, oGetf, oPutI, oPutZ, oPutJ, oPutA, oIald, oLald, oDald, oBald, oZald, oIast, oLast, oDast, oBast, oZast, oAald, oAast, o_mmax, o_mmin, oCall, oCallM, oCallMV, oIret, oZret, oLret, oDret, oVret, oThrow, zMO, zThru, zpop, zShort, zRecv, zg, zok1, List.set_cons_zero, List.set_cons_succ, List.getElem?_cons_zero, List.getElem?_cons_succ, List.length_cons, List.length_nil, List.length_set, Option.toList_some, Option.toList_none, List.cons_append, List.nil_append, Value.category, true_and, and_true, Nat.zero_add, Nat.add_zero, Nat.le_refl, Nat.reduceAdd, Nat.reduceLT, zPl, zPl2]
          refine ⟨fun h => absurd ((nI_leI (by omega) (by omega)).mp h) (by omega), fun _ => b34 _ _ _ _ _ ?_⟩
          simp only [zwp, oJump, oPush, oILoad, oALoad, oLLoad, oDLoad, oIStore, oAStore, oLStore, oDStore, oIinc, o_iadd, o_isub, o_imul, o_iand, o_ior, o_ixor, o_ishl, o_ishr, o_iushr, o_idiv, o_ladd, o_lsub, o_lmul, o_ldiv, o_lrem, o_ddiv, o_i2l, o_l2i, o_i2d, o_i2b, o_lcmp, o_dcmp, o_dup, o_dup2, o_pop, o_ic_eq, o_ic_ne, o_ic_lt, o_ic_ge, o_ic_gt, o_ic_le, o_if_eq, o_if_ne, o_if_lt, o_if_ge, o_if_gt, o_if_le, o_goto, oSwitch, zsw, oGetf, oPutI, oPutZ, oPutJ, oPutA, oIald, oLald, oDald, oBald, oZald, oIast, oLast, oDast, oBast, oZast, oAald, oAast, o_mmax, o_mmin, oCall, oCallM, oCallMV, oIret, oZret, oLret, oDret, oVret, oThrow, zMO, zThru, zpop, zShort, zRecv, zg, zok1, List.set_cons_zero, List.set_cons_succ, List.getElem?_cons_zero, List.getElem?_cons_succ, List.length_cons, List.length_nil, List.length_set, Option.toList_some, Option.toList_none, List.cons_append, List.nil_append, Value.category, true_and, and_true, Nat.zero_add, Nat.add_zero, Nat.le_refl, Nat.reduceAdd, Nat.reduceLT, zPl, zPl2]
          refine ⟨_, 0, 0, ⟨by decide, by omega, by omega⟩, CanM.mono (c_contains hfl (by have := hjr k; omega) (by omega) _) ?_⟩
          rintro r w' ⟨rfl, rfl⟩
          simp only [zwp, oJump, oPush, oILoad, oALoad, oLLoad, oDLoad, oIStore, oAStore, oLStore, oDStore, oIinc, o_iadd, o_isub, o_imul, o_iand, o_ior, o_ixor, o_ishl, o_ishr, o_iushr, o_idiv, o_ladd, o_lsub, o_lmul, o_ldiv, o_lrem, o_ddiv, o_i2l, o_l2i, o_i2d, o_i2b, o_lcmp, o_dcmp, o_dup, o_dup2, o_pop, o_ic_eq, o_ic_ne, o_ic_lt, o_ic_ge, o_ic_gt, o_ic_le, o_if_eq, o_if_ne, o_if_lt, o_if_ge, o_if_gt, o_if_le, o_goto, oSwitch, zsw, oGetf, oPutI, oPutZ, oPutJ, oPutA, oIald, oLald, oDald, oBald, oZald, oIast, oLast, oDast, oBast, oZast, oAald, oAast, o_mmax, o_mmin, oCall, oCallM, oCallMV, oIret, oZret, oLret, oDret, oVret, oThrow, zMO, zThru, zpop, zShort, zRecv, zg, zok1, List.set_cons_zero, List.set_cons_succ, List.getElem?_cons_zero, List.getElem?_cons_succ, List.length_cons, List.length_nil, List.length_set, Option.toList_some, Option.toList_none, List.cons_append, List.nil_append, Value.category, true_and, and_true, Nat.zero_add, Nat.add_zero, Nat.le_refl, Nat.reduceAdd, Nat.reduceLT, zPl, zPl2]
          have next : K 55 [some (.ref 0), some (.int (nI a)), some (.int (nI b)), some (.int (nI (jr (tG S) (tn S) a k))), some (.int (nI k)), some (.int (nI (jw (tG S) (jr (tG S) (tn S) a k) (t + 1)))), some (.int (nI t))] [] (zPl mc (tn S) fm fr fd fp fa fb) 0 0 := b55 _ _ _ _ _ (by
            simp only [zwp, oJump, oPush, oILoad, oALoad, oLLoad, oDLoad, oIStore, oAStore, oLStore, oDStore, oIinc, o_iadd, o_isub, o_imul, o_iand, o_ior, o_ixor, o_ishl, o_ishr, o_iushr, o_idiv, o_ladd, o_lsub, o_lmul, o_ldiv, o_lrem, o_ddiv, o_i2l, o_l2i, o_i2d, o_i2b, o_lcmp, o_dcmp, o_dup, o_dup2, o_pop, o_ic_eq, o_ic_ne, o_ic_lt, o_ic_ge, o_ic_gt, o_ic_le, o_if_eq, o_if_ne, o_if_lt, o_if_ge, o_if_gt, o_if_le, o_goto, oSwitch, zsw, oGetf, oPutI, oPutZ, oPutJ, oPutA, oIald, oLald, oDald, oBald, oZald, oIast, oLast, oDast, oBast, oZast, oAald, oAast, o_mmax, o_mmin, oCall, oCallM, oCallMV, oIret, oZret, oLret, oDret, oVret, oThrow, zMO, zThru, zpop, zShort, zRecv, zg, zok1, List.set_cons_zero, List.set_cons_succ, List.getElem?_cons_zero, List.getElem?_cons_succ, List.length_cons, List.length_nil, List.length_set, Option.toList_some, Option.toList_none, List.cons_append, List.nil_append, Value.category, true_and, and_true, Nat.zero_add, Nat.add_zero, Nat.le_refl, Nat.reduceAdd, Nat.reduceLT, zPl, zPl2]
            rw [nI_1]
            exact iht)
          refine ⟨fun h => ?_, fun h => b43 _ _ _ _ _ ?_⟩
          · have hb9 := (zb_eq0 _).mp h
            rw [jw, if_neg (by rw [hb9]; decide)] at next
            exact next
          · have hb9 : (jr (tG S) (tn S) a k).testBit t = true := by
              cases hq : (jr (tG S) (tn S) a k).testBit t
              · exact absurd ((zb_eq0 _).mpr hq) h
              · rfl
            simp only [zwp, oJump, oPush, oILoad, oALoad, oLLoad, oDLoad, oIStore, oAStore, oLStore, oDStore, oIinc, o_iadd, o_isub, o_imul, o_iand, o_ior, o_ixor, o_ishl, o_ishr, o_iushr, o_idiv, o_ladd, o_lsub, o_lmul, o_ldiv, o_lrem, o_ddiv, o_i2l, o_l2i, o_i2d, o_i2b, o_lcmp, o_dcmp, o_dup, o_dup2, o_pop, o_ic_eq, o_ic_ne, o_ic_lt, o_ic_ge, o_ic_gt, o_ic_le, o_if_eq, o_if_ne, o_if_lt, o_if_ge, o_if_gt, o_if_le, o_goto, oSwitch, zsw, oGetf, oPutI, oPutZ, oPutJ, oPutA, oIald, oLald, oDald, oBald, oZald, oIast, oLast, oDast, oBast, oZast, oAald, oAast, o_mmax, o_mmin, oCall, oCallM, oCallMV, oIret, oZret, oLret, oDret, oVret, oThrow, zMO, zThru, zpop, zShort, zRecv, zg, zok1, List.set_cons_zero, List.set_cons_succ, List.getElem?_cons_zero, List.getElem?_cons_succ, List.length_cons, List.length_nil, List.length_set, Option.toList_some, Option.toList_none, List.cons_append, List.nil_append, Value.category, true_and, and_true, Nat.zero_add, Nat.add_zero, Nat.le_refl, Nat.reduceAdd, Nat.reduceLT, zPl, zPl2]
            rw [cl (by omega), (hR t ht).2.2.2.2.2, n_or]
            rw [jw, if_pos hb9] at next
            exact ⟨vin (by omega) (by decide), next⟩
      exact inner 0 (by omega)
  refine b0 _ _ _ _ _ ?_
  simp only [zwp, oJump, oPush, oILoad, oALoad, oLLoad, oDLoad, oIStore, oAStore, oLStore, oDStore, oIinc, o_iadd, o_isub, o_imul, o_iand, o_ior, o_ixor, o_ishl, o_ishr, o_iushr, o_idiv, o_ladd, o_lsub, o_lmul, o_ldiv, o_lrem, o_ddiv, o_i2l, o_l2i, o_i2d, o_i2b, o_lcmp, o_dcmp, o_dup, o_dup2, o_pop, o_ic_eq, o_ic_ne, o_ic_lt, o_ic_ge, o_ic_gt, o_ic_le, o_if_eq, o_if_ne, o_if_lt, o_if_ge, o_if_gt, o_if_le, o_goto, oSwitch, zsw, oGetf, oPutI, oPutZ, oPutJ, oPutA, oIald, oLald, oDald, oBald, oZald, oIast, oLast, oDast, oBast, oZast, oAald, oAast, o_mmax, o_mmin, oCall, oCallM, oCallMV, oIret, oZret, oLret, oDret, oVret, oThrow, zMO, zThru, zpop, zShort, zRecv, zg, zok1, List.set_cons_zero, List.set_cons_succ, List.getElem?_cons_zero, List.getElem?_cons_succ, List.length_cons, List.length_nil, List.length_set, Option.toList_some, Option.toList_none, List.cons_append, List.nil_append, Value.category, true_and, and_true, Nat.zero_add, Nat.add_zero, Nat.le_refl, Nat.reduceAdd, Nat.reduceLT, zPl, zPl2]
  rw [cl (by omega), (hR a ha).2.2.2.2.2]
  exact ⟨vin (by omega) (by decide), wk _ _ _ _ _ _ _ (by simp [zsub, jr, nI_0]) (outer 0 (by omega))⟩
/-- how many are given, of the tasks below k -/
def gTo (S : TS) : Nat → Nat
  | 0 => 0
  | k + 1 => gTo S k + pop (tG S k) 8
def gMany (S : TS) : Nat := gTo S (tn S)
set_option maxRecDepth 100000 in
theorem c_countGiven (hfl : l.stackTraces = false) {S : TS} {mc : Nat} (hok : TSok S mc) {fm fr fd fp fa fb : Nat → Int32} (hR : PlR S fm fr fd fp fa fb) : Can l yX5_countGiven wsX5_countGiven 1 0 0 [.ref 0] (zPl mc (tn S) fm fr fd fp fa fb) (fun o w' => o = .inl (some (.int (nI (gMany S)))) ∧ w' = zPl mc (tn S) fm fr fd fp fa fb) := by
  obtain ⟨hn, -, -, hok⟩ := hok
  refine zm_X5_countGiven hfl ?_
  intro K wk b0 b4 b12 b30
  have loop : ∀ t, t ≤ tn S → K 4 [some (.ref 0), some (.int (nI (gTo S t))), some (.int (nI t))] [] (zPl mc (tn S) fm fr fd fp fa fb) 0 0 := by
    refine zdown _ _ (b4 _ _ _ _ _ ?_) (fun t ht ih => b4 _ _ _ _ _ ?_)
    · simp only [zwp, oJump, oPush, oILoad, oALoad, oLLoad, oDLoad, oIStore, oAStore, oLStore, oDStore, oIinc, o_iadd, o_isub, o_imul, o_iand, o_ior, o_ixor, o_ishl, o_ishr, o_iushr, o_idiv, o_ladd, o_lsub, o_lmul, o_ldiv, o_lrem, o_ddiv, o_i2l, o_l2i, o_i2d, o_i2b, o_lcmp, o_dcmp, o_dup, o_dup2, o_pop, o_ic_eq, o_ic_ne, o_ic_lt, o_ic_ge, o_ic_gt, o_ic_le, o_if_eq, o_if_ne, o_if_lt, o_if_ge, o_if_gt, o_if_le, o_goto, oSwitch, zsw, oGetf, oPutI, oPutZ, oPutJ, oPutA, oIald, oLald, oDald, oBald, oZald, oIast, oLast, oDast, oBast, oZast, oAald, oAast, o_mmax, o_mmin, oCall, oCallM, oCallMV, oIret, oZret, oLret, oDret, oVret, oThrow, zMO, zThru, zpop, zShort, zRecv, zg, zok1, List.set_cons_zero, List.set_cons_succ, List.getElem?_cons_zero, List.getElem?_cons_succ, List.length_cons, List.length_nil, List.length_set, Option.toList_some, Option.toList_none, List.cons_append, List.nil_append, Value.category, true_and, and_true, Nat.zero_add, Nat.add_zero, Nat.le_refl, Nat.reduceAdd, Nat.reduceLT, zPl, zPl2]
      refine ⟨fun _ => b30 _ _ _ _ _ ?_, fun h => absurd (Int32.le_refl _) h⟩
      simp only [zwp, oJump, oPush, oILoad, oALoad, oLLoad, oDLoad, oIStore, oAStore, oLStore, oDStore, oIinc, o_iadd, o_isub, o_imul, o_iand, o_ior, o_ixor, o_ishl, o_ishr, o_iushr, o_idiv, o_ladd, o_lsub, o_lmul, o_ldiv, o_lrem, o_ddiv, o_i2l, o_l2i, o_i2d, o_i2b, o_lcmp, o_dcmp, o_dup, o_dup2, o_pop, o_ic_eq, o_ic_ne, o_ic_lt, o_ic_ge, o_ic_gt, o_ic_le, o_if_eq, o_if_ne, o_if_lt, o_if_ge, o_if_gt, o_if_le, o_goto, oSwitch, zsw, oGetf, oPutI, oPutZ, oPutJ, oPutA, oIald, oLald, oDald, oBald, oZald, oIast, oLast, oDast, oBast, oZast, oAald, oAast, o_mmax, o_mmin, oCall, oCallM, oCallMV, oIret, oZret, oLret, oDret, oVret, oThrow, zMO, zThru, zpop, zShort, zRecv, zg, zok1, List.set_cons_zero, List.set_cons_succ, List.getElem?_cons_zero, List.getElem?_cons_succ, List.length_cons, List.length_nil, List.length_set, Option.toList_some, Option.toList_none, List.cons_append, List.nil_append, Value.category, true_and, and_true, Nat.zero_add, Nat.add_zero, Nat.le_refl, Nat.reduceAdd, Nat.reduceLT, zPl, zPl2]
      rfl
    · simp only [zwp, oJump, oPush, oILoad, oALoad, oLLoad, oDLoad, oIStore, oAStore, oLStore, oDStore, oIinc, o_iadd, o_isub, o_imul, o_iand, o_ior, o_ixor, o_ishl, o_ishr, o_iushr, o_idiv, o_ladd, o_lsub, o_lmul, o_ldiv, o_lrem, o_ddiv, o_i2l, o_l2i, o_i2d, o_i2b, o_lcmp, o_dcmp, o_dup, o_dup2, o_pop, o_ic_eq, o_ic_ne, o_ic_lt, o_ic_ge, o_ic_gt, o_ic_le, o_if_eq, o_if_ne, o_if_lt, o_if_ge, o_if_gt, o_if_le, o_goto, oSwitch, zsw, oGetf, oPutI, oPutZ, oPutJ, oPutA, oIald, oLald, oDald, oBald, oZald, oIast, oLast, oDast, oBast, oZast, oAald, oAast, o_mmax, o_mmin, oCall, oCallM, oCallMV, oIret, oZret, oLret, oDret, oVret, oThrow, zMO, zThru, zpop, zShort, zRecv, zg, zok1, List.set_cons_zero, List.set_cons_succ, List.getElem?_cons_zero, List.getElem?_cons_succ, List.length_cons, List.length_nil, List.length_set, Option.toList_some, Option.toList_none, List.cons_append, List.nil_append, Value.category, true_and, and_true, Nat.zero_add, Nat.add_zero, Nat.le_refl, Nat.reduceAdd, Nat.reduceLT, zPl, zPl2]
      refine ⟨fun h => absurd ((nI_leI (by omega) (by omega)).mp h) (by omega), fun _ => b12 _ _ _ _ _ ?_⟩
      simp only [zwp, oJump, oPush, oILoad, oALoad, oLLoad, oDLoad, oIStore, oAStore, oLStore, oDStore, oIinc, o_iadd, o_isub, o_imul, o_iand, o_ior, o_ixor, o_ishl, o_ishr, o_iushr, o_idiv, o_ladd, o_lsub, o_lmul, o_ldiv, o_lrem, o_ddiv, o_i2l, o_l2i, o_i2d, o_i2b, o_lcmp, o_dcmp, o_dup, o_dup2, o_pop, o_ic_eq, o_ic_ne, o_ic_lt, o_ic_ge, o_ic_gt, o_ic_le, o_if_eq, o_if_ne, o_if_lt, o_if_ge, o_if_gt, o_if_le, o_goto, oSwitch, zsw, oGetf, oPutI, oPutZ, oPutJ, oPutA, oIald, oLald, oDald, oBald, oZald, oIast, oLast, oDast, oBast, oZast, oAald, oAast, o_mmax, o_mmin, oCall, oCallM, oCallMV, oIret, oZret, oLret, oDret, oVret, oThrow, zMO, zThru, zpop, zShort, zRecv, zg, zok1, List.set_cons_zero, List.set_cons_succ, List.getElem?_cons_zero, List.getElem?_cons_succ, List.length_cons, List.length_nil, List.length_set, Option.toList_some, Option.toList_none, List.cons_append, List.nil_append, Value.category, true_and, and_true, Nat.zero_add, Nat.add_zero, Nat.le_refl, Nat.reduceAdd, Nat.reduceLT, zPl, zPl2]
      rw [cl (by omega), (hR t ht).2.2.2.2.2]
      refine ⟨vin (by omega) (by decide), _, 0, 0, ⟨by decide, by omega, by omega⟩, Can.mono (c_bitCount hfl (two8 (hok t ht).2.2.2.2.2.2 hn) _) ?_⟩
      rintro r w' ⟨rfl, rfl⟩
      simp only [zwp, oJump, oPush, oILoad, oALoad, oLLoad, oDLoad, oIStore, oAStore, oLStore, oDStore, oIinc, o_iadd, o_isub, o_imul, o_iand, o_ior, o_ixor, o_ishl, o_ishr, o_iushr, o_idiv, o_ladd, o_lsub, o_lmul, o_ldiv, o_lrem, o_ddiv, o_i2l, o_l2i, o_i2d, o_i2b, o_lcmp, o_dcmp, o_dup, o_dup2, o_pop, o_ic_eq, o_ic_ne, o_ic_lt, o_ic_ge, o_ic_gt, o_ic_le, o_if_eq, o_if_ne, o_if_lt, o_if_ge, o_if_gt, o_if_le, o_goto, oSwitch, zsw, oGetf, oPutI, oPutZ, oPutJ, oPutA, oIald, oLald, oDald, oBald, oZald, oIast, oLast, oDast, oBast, oZast, oAald, oAast, o_mmax, o_mmin, oCall, oCallM, oCallMV, oIret, oZret, oLret, oDret, oVret, oThrow, zMO, zThru, zpop, zShort, zRecv, zg, zok1, List.set_cons_zero, List.set_cons_succ, List.getElem?_cons_zero, List.getElem?_cons_succ, List.length_cons, List.length_nil, List.length_set, Option.toList_some, Option.toList_none, List.cons_append, List.nil_append, Value.category, true_and, and_true, Nat.zero_add, Nat.add_zero, Nat.le_refl, Nat.reduceAdd, Nat.reduceLT, zPl, zPl2]
      rw [nI_add, nI_1]
      exact ih
  refine b0 _ _ _ _ _ ?_
  simp only [zwp, oJump, oPush, oILoad, oALoad, oLLoad, oDLoad, oIStore, oAStore, oLStore, oDStore, oIinc, o_iadd, o_isub, o_imul, o_iand, o_ior, o_ixor, o_ishl, o_ishr, o_iushr, o_idiv, o_ladd, o_lsub, o_lmul, o_ldiv, o_lrem, o_ddiv, o_i2l, o_l2i, o_i2d, o_i2b, o_lcmp, o_dcmp, o_dup, o_dup2, o_pop, o_ic_eq, o_ic_ne, o_ic_lt, o_ic_ge, o_ic_gt, o_ic_le, o_if_eq, o_if_ne, o_if_lt, o_if_ge, o_if_gt, o_if_le, o_goto, oSwitch, zsw, oGetf, oPutI, oPutZ, oPutJ, oPutA, oIald, oLald, oDald, oBald, oZald, oIast, oLast, oDast, oBast, oZast, oAald, oAast, o_mmax, o_mmin, oCall, oCallM, oCallMV, oIret, oZret, oLret, oDret, oVret, oThrow, zMO, zThru, zpop, zShort, zRecv, zg, zok1, List.set_cons_zero, List.set_cons_succ, List.getElem?_cons_zero, List.getElem?_cons_succ, List.length_cons, List.length_nil, List.length_set, Option.toList_some, Option.toList_none, List.cons_append, List.nil_append, Value.category, true_and, and_true, Nat.zero_add, Nat.add_zero, Nat.le_refl, Nat.reduceAdd, Nat.reduceLT, zPl, zPl2]
  exact loop 0 (by omega)
end PL2
