-- pics: zMo
/-! THE REFERENCE: leads -/
section MO13
/-- one pass over all tasks, each in the set as it stands -/
def gs (G : Nat → Nat) (R : Nat) : Nat → Nat
  | 0 => R
  | t + 1 => if (gs G R t).testBit t then gs G R t ||| G t else gs G R t
def gr (G : Nat → Nat) (n x : Nat) : Nat → Nat
  | 0 => G x
  | k + 1 => gs G (gr G n x k) n
theorem gs_step {G : Nat → Nat} {R t : Nat} : Sub (gs G R t) (gs G R (t + 1)) := by
  rw [gs]
  split
  · exact Sub_or_l _ _
  · exact Sub.rf _
theorem gs_mono {G : Nat → Nat} {R t : Nat} : ∀ n, t ≤ n → Sub (gs G R t) (gs G R n)
  | 0, h => by
    have : t = 0 := by omega
    subst this
    exact Sub.rf _
  | n + 1, h => by
    by_cases e : t = n + 1
    · subst e; exact Sub.rf _
    · exact (gs_mono n (by omega)).tr gs_step
theorem gs_in {G : Nat → Nat} {R t n : Nat} (ht : t < n) (hb : R.testBit t = true) : Sub (G t) (gs G R n) := by
  have h1 : (gs G R t).testBit t = true := gs_mono (G := G) (R := R) (t := 0) t (Nat.zero_le _) t hb
  refine Sub.tr ?_ (gs_mono (t := t + 1) n (by omega))
  rw [gs, if_pos h1]
  exact Sub_or_r _ _
theorem gs_lt {G : Nat → Nat} {R m : Nat} (hR : R < 2 ^ m) : ∀ n, (∀ t, t < n → G t < 2 ^ m) → gs G R n < 2 ^ m
  | 0, _ => hR
  | n + 1, h => by
    have ih := gs_lt hR n (fun t ht => h t (by omega))
    rw [gs]
    split
    · exact Nat.or_lt_two_pow ih (h n (by omega))
    · exact ih
theorem gs_least {G : Nat → Nat} {R R' : Nat} (hR : Sub R R') : ∀ n, RCl n G R' → Sub (gs G R n) R'
  | 0, _ => hR
  | n + 1, h => by
    have ih := gs_least hR n (fun t ht => h t (by omega))
    rw [gs]
    split
    · next hb => exact Sub_or ih (h n (by omega) (ih n hb))
    · exact ih
theorem gr_reach {G : Nat → Nat} {n x : Nat} (hx : x < n) (hG : ∀ t, t < n → G t < 2 ^ n) : IsReach n G x (gr G n x n) := by
  have hlt : ∀ k, gr G n x k < 2 ^ n := by
    intro k
    induction k with
    | zero => exact hG x hx
    | succ k ih => exact gs_lt ih n hG
  have hsub : ∀ k, Sub (gr G n x k) (gr G n x (k + 1)) := fun k => gs_mono (G := G) (R := gr G n x k) (t := 0) n (Nat.zero_le _)
  refine ⟨?_, grow_closed hG (r := gr G n x) (hlt 0) hsub hlt (fun k t ht hb => gs_in ht hb) (fun k h => by rw [gr, h, ← gr, h]), ?_⟩
  · have : ∀ k, Sub (G x) (gr G n x k) := by
      intro k
      induction k with
      | zero => exact Sub.rf _
      | succ k ih => exact ih.tr (hsub k)
    exact this n
  · intro R' h1 h2
    have : ∀ k, Sub (gr G n x k) R' := by
      intro k
      induction k with
      | zero => exact h1
      | succ k ih => exact gs_least ih n h2
    exact this n
variable {l : Launch} {th mc n sv ty ch ixa wr om : Int32} {db : Int64} {fm fr fd fp fg fs ftx fF fL fA sF sL sW fO rw br st bs du fo : Nat → Int32}
set_option maxRecDepth 100000 in
theorem m_leads (hfl : l.stackTraces = false) {S : TS} {mcN : Nat} (hok : TSok S mcN) (hG : ∀ t, t < tn S → fg t = nI (tG S t)) {a b : Nat} (ha : a < tn S) (hb : b < tn S) : Can l yX8_leads wsX8_leads 1 0 0 [.ref 0, .int (nI a), .int (nI b)] (zMo th mc (nI (tn S)) sv ty ch ixa wr om db fm fr fd fp fg fs ftx fF fL fA sF sL sW fO rw br st bs du fo) (fun o w' => o = .inl (some (.int (zb ((rr S a).testBit b)))) ∧ w' = (zMo th mc (nI (tn S)) sv ty ch ixa wr om db fm fr fd fp fg fs ftx fF fL fA sF sL sW fO rw br st bs du fo)) := by
  have hn := hok.1
  have hG2 : ∀ t, t < tn S → tG S t < 2 ^ tn S := fun t ht => (hok.2.2.2 t ht).2.2.2.2.2.2
  have hGs : ∀ R t, R < 2 ^ tn S → t ≤ tn S → gs (tG S) R t < 256 := fun R t h1 h2 => two8 (gs_lt h1 t (fun u hu => hG2 u (by omega))) hn
  have hgr : ∀ k, gr (tG S) (tn S) a k < 2 ^ tn S := by
    intro k
    induction k with
    | zero => exact hG2 a ha
    | succ k ih => exact gs_lt ih _ hG2
  have hrr : gr (tG S) (tn S) a (tn S) = rr S a := (gr_reach ha hG2).uniq (rr_reach hok ha)
  refine zm_X8_leads hfl ?_
  intro K wk b0 b10 b19 b22 b31 b41 b51 b52 b60 b66
  have outer : ∀ k, k ≤ tn S → K 10 [some (.ref 0), some (.int (nI a)), some (.int (nI b)), some (.int (nI (gr (tG S) (tn S) a k))), some (.int (nI k)), none] [] (zMo th mc (nI (tn S)) sv ty ch ixa wr om db fm fr fd fp fg fs ftx fF fL fA sF sL sW fO rw br st bs du fo) 0 0 := by
    refine zdown _ _ (b10 _ _ _ _ _ ?_) (fun k hk ih => b10 _ _ _ _ _ ?_)
    · simp only [zwp, oJump, oPush, oILoad, oALoad, oLLoad, oDLoad, oIStore, oAStore, oLStore, oDStore, oIinc, o_iadd, o_isub, o_imul, o_iand, o_ior, o_ixor, o_ishl, o_ishr, o_iushr, o_idiv, o_ladd, o_lsub, o_lmul, o_ldiv, o_lrem, o_ddiv, o_i2l, o_l2i, o_i2d, o_i2b, o_lcmp, o_dcmp, o_dup, o_dup2, o_pop, o_ic_eq, o_ic_ne, o_ic_lt, o_ic_ge, o_ic_gt, o_ic_le, o_if_eq, o_if_ne, o_if_lt, o_if_ge, o_if_gt, o_if_le, o_goto, oSwitch, zsw, oGetf, oPutI, oPutZ, oPutJ, oPutA, oIald, oLald, oDald, oBald, oZald, oIast, oLast, oDast, oBast, oZast, oAald, oAast, o_mmax, o_mmin, oCall, oCallM, oCallMV, oIret, oZret, oLret, oDret, oVret, oThrow, zMO, zThru, zpop, zShort, zRecv, zg, zok1, List.set_cons_zero, List.set_cons_succ, List.getElem?_cons_zero, List.getElem?_cons_succ, List.length_cons, List.length_nil, List.length_set, Option.toList_some, Option.toList_none, List.cons_append, List.nil_append, Value.category, true_and, and_true, Nat.zero_add, Nat.add_zero, Nat.le_refl, Nat.reduceAdd, Nat.reduceLT, zMo]
      refine ⟨fun _ => b66 _ _ _ _ _ ?_, fun h => absurd (Int32.le_refl _) h⟩
      have h8 := two8 (hgr (tn S)) hn
      simp only [zwp, oJump, oPush, oILoad, oALoad, oLLoad, oDLoad, oIStore, oAStore, oLStore, oDStore, oIinc, o_iadd, o_isub, o_imul, o_iand, o_ior, o_ixor, o_ishl, o_ishr, o_iushr, o_idiv, o_ladd, o_lsub, o_lmul, o_ldiv, o_lrem, o_ddiv, o_i2l, o_l2i, o_i2d, o_i2b, o_lcmp, o_dcmp, o_dup, o_dup2, o_pop, o_ic_eq, o_ic_ne, o_ic_lt, o_ic_ge, o_ic_gt, o_ic_le, o_if_eq, o_if_ne, o_if_lt, o_if_ge, o_if_gt, o_if_le, o_goto, oSwitch, zsw, oGetf, oPutI, oPutZ, oPutJ, oPutA, oIald, oLald, oDald, oBald, oZald, oIast, oLast, oDast, oBast, oZast, oAald, oAast, o_mmax, o_mmin, oCall, oCallM, oCallMV, oIret, oZret, oLret, oDret, oVret, oThrow, zMO, zThru, zpop, zShort, zRecv, zg, zok1, List.set_cons_zero, List.set_cons_succ, List.getElem?_cons_zero, List.getElem?_cons_succ, List.length_cons, List.length_nil, List.length_set, Option.toList_some, Option.toList_none, List.cons_append, List.nil_append, Value.category, true_and, and_true, Nat.zero_add, Nat.add_zero, Nat.le_refl, Nat.reduceAdd, Nat.reduceLT, zMo]
      refine ⟨_, 0, 0, ⟨by decide, by omega, by omega⟩, Can.mono (m_has hfl (by omega) (by omega) _) ?_⟩
      rintro o w' ⟨rfl, rfl⟩
      simp only [zwp, oJump, oPush, oILoad, oALoad, oLLoad, oDLoad, oIStore, oAStore, oLStore, oDStore, oIinc, o_iadd, o_isub, o_imul, o_iand, o_ior, o_ixor, o_ishl, o_ishr, o_iushr, o_idiv, o_ladd, o_lsub, o_lmul, o_ldiv, o_lrem, o_ddiv, o_i2l, o_l2i, o_i2d, o_i2b, o_lcmp, o_dcmp, o_dup, o_dup2, o_pop, o_ic_eq, o_ic_ne, o_ic_lt, o_ic_ge, o_ic_gt, o_ic_le, o_if_eq, o_if_ne, o_if_lt, o_if_ge, o_if_gt, o_if_le, o_goto, oSwitch, zsw, oGetf, oPutI, oPutZ, oPutJ, oPutA, oIald, oLald, oDald, oBald, oZald, oIast, oLast, oDast, oBast, oZast, oAald, oAast, o_mmax, o_mmin, oCall, oCallM, oCallMV, oIret, oZret, oLret, oDret, oVret, oThrow, zMO, zThru, zpop, zShort, zRecv, zg, zok1, List.set_cons_zero, List.set_cons_succ, List.getElem?_cons_zero, List.getElem?_cons_succ, List.length_cons, List.length_nil, List.length_set, Option.toList_some, Option.toList_none, List.cons_append, List.nil_append, Value.category, true_and, and_true, Nat.zero_add, Nat.add_zero, Nat.le_refl, Nat.reduceAdd, Nat.reduceLT, zMo]
      exact ⟨zb_01 _, by rw [hrr]⟩
    · simp only [zwp, oJump, oPush, oILoad, oALoad, oLLoad, oDLoad, oIStore, oAStore, oLStore, oDStore, oIinc, o_iadd, o_isub, o_imul, o_iand, o_ior, o_ixor, o_ishl, o_ishr, o_iushr, o_idiv, o_ladd, o_lsub, o_lmul, o_ldiv, o_lrem, o_ddiv, o_i2l, o_l2i, o_i2d, o_i2b, o_lcmp, o_dcmp, o_dup, o_dup2, o_pop, o_ic_eq, o_ic_ne, o_ic_lt, o_ic_ge, o_ic_gt, o_ic_le, o_if_eq, o_if_ne, o_if_lt, o_if_ge, o_if_gt, o_if_le, o_goto, oSwitch, zsw, oGetf, oPutI, oPutZ, oPutJ, oPutA, oIald, oLald, oDald, oBald, oZald, oIast, oLast, oDast, oBast, oZast, oAald, oAast, o_mmax, o_mmin, oCall, oCallM, oCallMV, oIret, oZret, oLret, oDret, oVret, oThrow, zMO, zThru, zpop, zShort, zRecv, zg, zok1, List.set_cons_zero, List.set_cons_succ, List.getElem?_cons_zero, List.getElem?_cons_succ, List.length_cons, List.length_nil, List.length_set, Option.toList_some, Option.toList_none, List.cons_append, List.nil_append, Value.category, true_and, and_true, Nat.zero_add, Nat.add_zero, Nat.le_refl, Nat.reduceAdd, Nat.reduceLT, zMo]
      refine ⟨fun h => absurd ((nI_leI (by omega) (by omega)).mp h) (by omega), fun _ => b19 _ _ _ _ _ ?_⟩
      simp only [zwp, oJump, oPush, oILoad, oALoad, oLLoad, oDLoad, oIStore, oAStore, oLStore, oDStore, oIinc, o_iadd, o_isub, o_imul, o_iand, o_ior, o_ixor, o_ishl, o_ishr, o_iushr, o_idiv, o_ladd, o_lsub, o_lmul, o_ldiv, o_lrem, o_ddiv, o_i2l, o_l2i, o_i2d, o_i2b, o_lcmp, o_dcmp, o_dup, o_dup2, o_pop, o_ic_eq, o_ic_ne, o_ic_lt, o_ic_ge, o_ic_gt, o_ic_le, o_if_eq, o_if_ne, o_if_lt, o_if_ge, o_if_gt, o_if_le, o_goto, oSwitch, zsw, oGetf, oPutI, oPutZ, oPutJ, oPutA, oIald, oLald, oDald, oBald, oZald, oIast, oLast, oDast, oBast, oZast, oAald, oAast, o_mmax, o_mmin, oCall, oCallM, oCallMV, oIret, oZret, oLret, oDret, oVret, oThrow, zMO, zThru, zpop, zShort, zRecv, zg, zok1, List.set_cons_zero, List.set_cons_succ, List.getElem?_cons_zero, List.getElem?_cons_succ, List.length_cons, List.length_nil, List.length_set, Option.toList_some, Option.toList_none, List.cons_append, List.nil_append, Value.category, true_and, and_true, Nat.zero_add, Nat.add_zero, Nat.le_refl, Nat.reduceAdd, Nat.reduceLT, zMo]
      have inner : ∀ t, t ≤ tn S → K 22 [some (.ref 0), some (.int (nI a)), some (.int (nI b)), some (.int (nI (gs (tG S) (gr (tG S) (tn S) a k) t))), some (.int (nI k)), some (.int (nI t))] [] (zMo th mc (nI (tn S)) sv ty ch ixa wr om db fm fr fd fp fg fs ftx fF fL fA sF sL sW fO rw br st bs du fo) 0 0 := by
        refine zdown _ _ (b22 _ _ _ _ _ ?_) (fun t ht iht => b22 _ _ _ _ _ ?_)
        · simp only [zwp, oJump, oPush, oILoad, oALoad, oLLoad, oDLoad, oIStore, oAStore, oLStore, oDStore, oIinc, o_iadd, o_isub, o_imul, o_iand, o_ior, o_ixor, o_ishl, o_ishr, o_iushr, o_idiv, o_ladd, o_lsub, o_lmul, o_ldiv, o_lrem, o_ddiv, o_i2l, o_l2i, o_i2d, o_i2b, o_lcmp, o_dcmp, o_dup, o_dup2, o_pop, o_ic_eq, o_ic_ne, o_ic_lt, o_ic_ge, o_ic_gt, o_ic_le, o_if_eq, o_if_ne, o_if_lt, o_if_ge, o_if_gt, o_if_le, o_goto, oSwitch, zsw, oGetf, oPutI, oPutZ, oPutJ, oPutA, oIald, oLald, oDald, oBald, oZald, oIast, oLast, oDast, oBast, oZast, oAald, oAast, o_mmax, o_mmin, oCall, oCallM, oCallMV, oIret, oZret, oLret, oDret, oVret, oThrow, zMO, zThru, zpop, zShort, zRecv, zg, zok1, List.set_cons_zero, List.set_cons_succ, List.getElem?_cons_zero, List.getElem?_cons_succ, List.length_cons, List.length_nil, List.length_set, Option.toList_some, Option.toList_none, List.cons_append, List.nil_append, Value.category, true_and, and_true, Nat.zero_add, Nat.add_zero, Nat.le_refl, Nat.reduceAdd, Nat.reduceLT, zMo]
          refine ⟨fun _ => b60 _ _ _ _ _ ?_, fun h => absurd (Int32.le_refl _) h⟩
          simp only [zwp, oJump, oPush, oILoad, oALoad, oLLoad, oDLoad, oIStore, oAStore, oLStore, oDStore, oIinc, o_iadd, o_isub, o_imul, o_iand, o_ior, o_ixor, o_ishl, o_ishr, o_iushr, o_idiv, o_ladd, o_lsub, o_lmul, o_ldiv, o_lrem, o_ddiv, o_i2l, o_l2i, o_i2d, o_i2b, o_lcmp, o_dcmp, o_dup, o_dup2, o_pop, o_ic_eq, o_ic_ne, o_ic_lt, o_ic_ge, o_ic_gt, o_ic_le, o_if_eq, o_if_ne, o_if_lt, o_if_ge, o_if_gt, o_if_le, o_goto, oSwitch, zsw, oGetf, oPutI, oPutZ, oPutJ, oPutA, oIald, oLald, oDald, oBald, oZald, oIast, oLast, oDast, oBast, oZast, oAald, oAast, o_mmax, o_mmin, oCall, oCallM, oCallMV, oIret, oZret, oLret, oDret, oVret, oThrow, zMO, zThru, zpop, zShort, zRecv, zg, zok1, List.set_cons_zero, List.set_cons_succ, List.getElem?_cons_zero, List.getElem?_cons_succ, List.length_cons, List.length_nil, List.length_set, Option.toList_some, Option.toList_none, List.cons_append, List.nil_append, Value.category, true_and, and_true, Nat.zero_add, Nat.add_zero, Nat.le_refl, Nat.reduceAdd, Nat.reduceLT, zMo]
          rw [nI_1]
          exact wk _ _ [_, _, _, _, _, none] _ _ _ _ (by simp [zsub, gr]) ih
        · simp only [zwp, oJump, oPush, oILoad, oALoad, oLLoad, oDLoad, oIStore, oAStore, oLStore, oDStore, oIinc, o_iadd, o_isub, o_imul, o_iand, o_ior, o_ixor, o_ishl, o_ishr, o_iushr, o_idiv, o_ladd, o_lsub, o_lmul, o_ldiv, o_lrem, o_ddiv, o_i2l, o_l2i, o_i2d, o_i2b, o_lcmp, o_dcmp, o_dup, o_dup2, o_pop, o_ic_eq, o_ic_ne, o_ic_lt, o_ic_ge, o_ic_gt, o_ic_le, o_if_eq, o_if_ne, o_if_lt, o_if_ge, o_if_gt, o_if_le, o_goto, oSwitch, zsw, oGetf, oPutI, oPutZ, oPutJ, oPutA, oIald, oLald, oDald, oBald, oZald, oIast, oLast, oDast, oBast, oZast, oAald, oAast, o_mmax, o_mmin, oCall, oCallM, oCallMV, oIret, oZret, oLret, oDret, oVret, oThrow, zMO, zThru, zpop, zShort, zRecv, zg, zok1, List.set_cons_zero, List.set_cons_succ, List.getElem?_cons_zero, List.getElem?_cons_succ, List.length_cons, List.length_nil, List.length_set, Option.toList_some, Option.toList_none, List.cons_append, List.nil_append, Value.category, true_and, and_true, Nat.zero_add, Nat.add_zero, Nat.le_refl, Nat.reduceAdd, Nat.reduceLT, zMo]
          refine ⟨fun h => absurd ((nI_leI (by omega) (by omega)).mp h) (by omega), fun _ => b31 _ _ _ _ _ ?_⟩
          have h8 := hGs _ t (hgr k) (by omega)
          have n52 : ∀ x : Nat, gs (tG S) (gr (tG S) (tn S) a k) t ||| x = gs (tG S) (gr (tG S) (tn S) a k) (t + 1) → K 52 [some (.ref 0), some (.int (nI a)), some (.int (nI b)), some (.int (nI (gs (tG S) (gr (tG S) (tn S) a k) t))), some (.int (nI k)), some (.int (nI t))] [.int (nI x), .int (nI (gs (tG S) (gr (tG S) (tn S) a k) t))] (zMo th mc (nI (tn S)) sv ty ch ixa wr om db fm fr fd fp fg fs ftx fF fL fA sF sL sW fO rw br st bs du fo) 0 0 := fun x hx => b52 _ _ _ _ _ (by
            simp only [zwp, oJump, oPush, oILoad, oALoad, oLLoad, oDLoad, oIStore, oAStore, oLStore, oDStore, oIinc, o_iadd, o_isub, o_imul, o_iand, o_ior, o_ixor, o_ishl, o_ishr, o_iushr, o_idiv, o_ladd, o_lsub, o_lmul, o_ldiv, o_lrem, o_ddiv, o_i2l, o_l2i, o_i2d, o_i2b, o_lcmp, o_dcmp, o_dup, o_dup2, o_pop, o_ic_eq, o_ic_ne, o_ic_lt, o_ic_ge, o_ic_gt, o_ic_le, o_if_eq, o_if_ne, o_if_lt, o_if_ge, o_if_gt, o_if_le, o_goto, oSwitch, zsw, oGetf, oPutI, oPutZ, oPutJ, oPutA, oIald, oLald, oDald, oBald, oZald, oIast, oLast, oDast, oBast, oZast, oAald, oAast, o_mmax, o_mmin, oCall, oCallM, oCallMV, oIret, oZret, oLret, oDret, oVret, oThrow, zMO, zThru, zpop, zShort, zRecv, zg, zok1, List.set_cons_zero, List.set_cons_succ, List.getElem?_cons_zero, List.getElem?_cons_succ, List.length_cons, List.length_nil, List.length_set, Option.toList_some, Option.toList_none, List.cons_append, List.nil_append, Value.category, true_and, and_true, Nat.zero_add, Nat.add_zero, Nat.le_refl, Nat.reduceAdd, Nat.reduceLT, zMo]
            rw [n_or, hx, nI_1]
            exact iht)
          simp only [zwp, oJump, oPush, oILoad, oALoad, oLLoad, oDLoad, oIStore, oAStore, oLStore, oDStore, oIinc, o_iadd, o_isub, o_imul, o_iand, o_ior, o_ixor, o_ishl, o_ishr, o_iushr, o_idiv, o_ladd, o_lsub, o_lmul, o_ldiv, o_lrem, o_ddiv, o_i2l, o_l2i, o_i2d, o_i2b, o_lcmp, o_dcmp, o_dup, o_dup2, o_pop, o_ic_eq, o_ic_ne, o_ic_lt, o_ic_ge, o_ic_gt, o_ic_le, o_if_eq, o_if_ne, o_if_lt, o_if_ge, o_if_gt, o_if_le, o_goto, oSwitch, zsw, oGetf, oPutI, oPutZ, oPutJ, oPutA, oIald, oLald, oDald, oBald, oZald, oIast, oLast, oDast, oBast, oZast, oAald, oAast, o_mmax, o_mmin, oCall, oCallM, oCallMV, oIret, oZret, oLret, oDret, oVret, oThrow, zMO, zThru, zpop, zShort, zRecv, zg, zok1, List.set_cons_zero, List.set_cons_succ, List.getElem?_cons_zero, List.getElem?_cons_succ, List.length_cons, List.length_nil, List.length_set, Option.toList_some, Option.toList_none, List.cons_append, List.nil_append, Value.category, true_and, and_true, Nat.zero_add, Nat.add_zero, Nat.le_refl, Nat.reduceAdd, Nat.reduceLT, zMo]
          refine ⟨_, 0, 0, ⟨by decide, by omega, by omega⟩, Can.mono (m_has hfl (by omega) (by omega) _) ?_⟩
          rintro o w' ⟨rfl, rfl⟩
          simp only [zwp, oJump, oPush, oILoad, oALoad, oLLoad, oDLoad, oIStore, oAStore, oLStore, oDStore, oIinc, o_iadd, o_isub, o_imul, o_iand, o_ior, o_ixor, o_ishl, o_ishr, o_iushr, o_idiv, o_ladd, o_lsub, o_lmul, o_ldiv, o_lrem, o_ddiv, o_i2l, o_l2i, o_i2d, o_i2b, o_lcmp, o_dcmp, o_dup, o_dup2, o_pop, o_ic_eq, o_ic_ne, o_ic_lt, o_ic_ge, o_ic_gt, o_ic_le, o_if_eq, o_if_ne, o_if_lt, o_if_ge, o_if_gt, o_if_le, o_goto, oSwitch, zsw, oGetf, oPutI, oPutZ, oPutJ, oPutA, oIald, oLald, oDald, oBald, oZald, oIast, oLast, oDast, oBast, oZast, oAald, oAast, o_mmax, o_mmin, oCall, oCallM, oCallMV, oIret, oZret, oLret, oDret, oVret, oThrow, zMO, zThru, zpop, zShort, zRecv, zg, zok1, List.set_cons_zero, List.set_cons_succ, List.getElem?_cons_zero, List.getElem?_cons_succ, List.length_cons, List.length_nil, List.length_set, Option.toList_some, Option.toList_none, List.cons_append, List.nil_append, Value.category, true_and, and_true, Nat.zero_add, Nat.add_zero, Nat.le_refl, Nat.reduceAdd, Nat.reduceLT, zMo]
          rw [zb_eq0]
          refine ⟨fun hf => b51 _ _ _ _ _ ?_, fun hf => b41 _ _ _ _ _ ?_⟩
          · simp only [zwp, oJump, oPush, oILoad, oALoad, oLLoad, oDLoad, oIStore, oAStore, oLStore, oDStore, oIinc, o_iadd, o_isub, o_imul, o_iand, o_ior, o_ixor, o_ishl, o_ishr, o_iushr, o_idiv, o_ladd, o_lsub, o_lmul, o_ldiv, o_lrem, o_ddiv, o_i2l, o_l2i, o_i2d, o_i2b, o_lcmp, o_dcmp, o_dup, o_dup2, o_pop, o_ic_eq, o_ic_ne, o_ic_lt, o_ic_ge, o_ic_gt, o_ic_le, o_if_eq, o_if_ne, o_if_lt, o_if_ge, o_if_gt, o_if_le, o_goto, oSwitch, zsw, oGetf, oPutI, oPutZ, oPutJ, oPutA, oIald, oLald, oDald, oBald, oZald, oIast, oLast, oDast, oBast, oZast, oAald, oAast, o_mmax, o_mmin, oCall, oCallM, oCallMV, oIret, oZret, oLret, oDret, oVret, oThrow, zMO, zThru, zpop, zShort, zRecv, zg, zok1, List.set_cons_zero, List.set_cons_succ, List.getElem?_cons_zero, List.getElem?_cons_succ, List.length_cons, List.length_nil, List.length_set, Option.toList_some, Option.toList_none, List.cons_append, List.nil_append, Value.category, true_and, and_true, Nat.zero_add, Nat.add_zero, Nat.le_refl, Nat.reduceAdd, Nat.reduceLT, zMo]
            exact n52 0 (by rw [gs, hf, Nat.or_zero]; rfl)
          · simp only [zwp, oJump, oPush, oILoad, oALoad, oLLoad, oDLoad, oIStore, oAStore, oLStore, oDStore, oIinc, o_iadd, o_isub, o_imul, o_iand, o_ior, o_ixor, o_ishl, o_ishr, o_iushr, o_idiv, o_ladd, o_lsub, o_lmul, o_ldiv, o_lrem, o_ddiv, o_i2l, o_l2i, o_i2d, o_i2b, o_lcmp, o_dcmp, o_dup, o_dup2, o_pop, o_ic_eq, o_ic_ne, o_ic_lt, o_ic_ge, o_ic_gt, o_ic_le, o_if_eq, o_if_ne, o_if_lt, o_if_ge, o_if_gt, o_if_le, o_goto, oSwitch, zsw, oGetf, oPutI, oPutZ, oPutJ, oPutA, oIald, oLald, oDald, oBald, oZald, oIast, oLast, oDast, oBast, oZast, oAald, oAast, o_mmax, o_mmin, oCall, oCallM, oCallMV, oIret, oZret, oLret, oDret, oVret, oThrow, zMO, zThru, zpop, zShort, zRecv, zg, zok1, List.set_cons_zero, List.set_cons_succ, List.getElem?_cons_zero, List.getElem?_cons_succ, List.length_cons, List.length_nil, List.length_set, Option.toList_some, Option.toList_none, List.cons_append, List.nil_append, Value.category, true_and, and_true, Nat.zero_add, Nat.add_zero, Nat.le_refl, Nat.reduceAdd, Nat.reduceLT, zMo]
            rw [cl (by omega), hG t ht]
            exact ⟨vin (by omega) (by decide), n52 _ (by rw [gs, if_pos (by simpa using hf)])⟩
      exact inner 0 (Nat.zero_le _)
  refine b0 _ _ _ _ _ ?_
  simp only [zwp, oJump, oPush, oILoad, oALoad, oLLoad, oDLoad, oIStore, oAStore, oLStore, oDStore, oIinc, o_iadd, o_isub, o_imul, o_iand, o_ior, o_ixor, o_ishl, o_ishr, o_iushr, o_idiv, o_ladd, o_lsub, o_lmul, o_ldiv, o_lrem, o_ddiv, o_i2l, o_l2i, o_i2d, o_i2b, o_lcmp, o_dcmp, o_dup, o_dup2, o_pop, o_ic_eq, o_ic_ne, o_ic_lt, o_ic_ge, o_ic_gt, o_ic_le, o_if_eq, o_if_ne, o_if_lt, o_if_ge, o_if_gt, o_if_le, o_goto, oSwitch, zsw, oGetf, oPutI, oPutZ, oPutJ, oPutA, oIald, oLald, oDald, oBald, oZald, oIast, oLast, oDast, oBast, oZast, oAald, oAast, o_mmax, o_mmin, oCall, oCallM, oCallMV, oIret, oZret, oLret, oDret, oVret, oThrow, zMO, zThru, zpop, zShort, zRecv, zg, zok1, List.set_cons_zero, List.set_cons_succ, List.getElem?_cons_zero, List.getElem?_cons_succ, List.length_cons, List.length_nil, List.length_set, Option.toList_some, Option.toList_none, List.cons_append, List.nil_append, Value.category, true_and, and_true, Nat.zero_add, Nat.add_zero, Nat.le_refl, Nat.reduceAdd, Nat.reduceLT, zMo]
  rw [cl (by omega), hG a ha]
  exact ⟨vin (by omega) (by decide), outer 0 (Nat.zero_le _)⟩
end MO13
