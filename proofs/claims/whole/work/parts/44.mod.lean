-- pics: zMo
/-! THE REFERENCE: saving, taking back, starting, adding, dates, giving -/
section MO24
variable {l : Launch} {th mc n sv ty ch ixa wr om : Int32} {db : Int64} {fm fr fd fp fg fs ftx fF fL fA sF sL sW fO rw br st bs du fo : Nat → Int32}
theorem n42 {m : Nat} (h : m ≤ 4) : nI m * 42 = nI (42 * m) := by
  rcases (show m = 0 ∨ m = 1 ∨ m = 2 ∨ m = 3 ∨ m = 4 by omega) with rfl | rfl | rfl | rfl | rfl <;> decide
set_option maxRecDepth 100000 in
theorem m_save (hfl : l.stackTraces = false) {S : TS} {mcN : Nat} {L : List (Nat × TS)} (hn : tn S ≤ 8) (hM : MoR S fm fr fd fp fg) (hS : SvR L fs) (hL : SvOk L) : Can l yX8_save wsX8_save 0 0 0 [.ref 0] (zMo th (nI mcN) (nI (tn S)) (nI L.length) ty ch ixa wr om db fm fr fd fp fg fs ftx fF fL fA sF sL sW fO rw br st bs du fo) (fun o w' => ∃ fs', o = .inl none ∧ w' = (zMo th (nI mcN) (nI (tn S)) (nI (svP L (mcN, S)).length) ty ch ixa wr om db fm fr fd fp fg fs' ftx fF fL fA sF sL sW fO rw br st bs du fo) ∧ SvR (svP L (mcN, S)) fs') := by
  have hl4 := hL.1
  refine zm_X8_save hfl ?_
  intro K wk b0 b8 b10 b16 b37 b47 b79 b85 b175
  have n47 : ∀ (L0 : List (Nat × TS)) (f0 : Nat → Int32) (x1 : Option Value), L0.length ≤ 3 → SvR L0 f0 → (∀ (k : Nat) (x : Nat × TS), L0[k]? = some x → tn x.2 ≤ 8) → svP L (mcN, S) = L0 ++ [(mcN, S)] → K 47 [some (.ref 0), x1, none] [] (zMo th (nI mcN) (nI (tn S)) (nI L0.length) ty ch ixa wr om db fm fr fd fp fg f0 ftx fF fL fA sF sL sW fO rw br st bs du fo) 0 0 := by
    intro L0 f0 x1 h3 hS0 hL0 hP
    refine b47 _ _ _ _ _ ?_
    have v0 := vin (n := 42 * L0.length) (N := 168) (by omega) (by decide)
    have v1 := vin (n := 42 * L0.length + 1) (N := 168) (by omega) (by decide)
    simp only [zwp, oJump, oPush, oILoad, oALoad, oLLoad, oDLoad, oIStore, oAStore, oLStore, oDStore, oIinc, o_iadd, o_isub, o_imul, o_iand, o_ior, o_ixor, o_ishl, o_ishr, o_iushr, o_idiv, o_ladd, o_lsub, o_lmul, o_ldiv, o_lrem, o_ddiv, o_i2l, o_l2i, o_i2d, o_i2b, o_lcmp, o_dcmp, o_dup, o_dup2, o_pop, o_ic_eq, o_ic_ne, o_ic_lt, o_ic_ge, o_ic_gt, o_ic_le, o_if_eq, o_if_ne, o_if_lt, o_if_ge, o_if_gt, o_if_le, o_goto, oSwitch, zsw, oGetf, oPutI, oPutZ, oPutJ, oPutA, oIald, oLald, oDald, oBald, oZald, oIast, oLast, oDast, oBast, oZast, oAald, oAast, o_mmax, o_mmin, oCall, oCallM, oCallMV, oIret, oZret, oLret, oDret, oVret, oThrow, zMO, zThru, zpop, zShort, zRecv, zg, zok1, List.set_cons_zero, List.set_cons_succ, List.getElem?_cons_zero, List.getElem?_cons_succ, List.length_cons, List.length_nil, List.length_set, Option.toList_some, Option.toList_none, List.cons_append, List.nil_append, Value.category, true_and, and_true, Nat.zero_add, Nat.add_zero, Nat.le_refl, Nat.reduceAdd, Nat.reduceLT, zMo]
    rw [n42 (by omega), nI_1, cl (by omega), cl (by omega)]
    refine ⟨v0, v1, ?_⟩
    have loop : ∀ t, t ≤ 8 → ∀ f : Nat → Int32, (∀ j, j < 42 * L0.length → f j = f0 j) → f (42 * L0.length) = nI mcN → f (42 * L0.length + 1) = nI (tn S) → (∀ u, u < t → f (42 * L0.length + 2 + u) = fm u ∧ f (42 * L0.length + 10 + u) = fr u ∧ f (42 * L0.length + 18 + u) = fd u ∧ f (42 * L0.length + 26 + u) = fp u ∧ f (42 * L0.length + 34 + u) = fg u) → K 79 [some (.ref 0), some (.int (nI (42 * L0.length))), some (.int (nI t))] [] (zMo th (nI mcN) (nI (tn S)) (nI L0.length) ty ch ixa wr om db fm fr fd fp fg f ftx fF fL fA sF sL sW fO rw br st bs du fo) 0 0 := by
      refine zdown _ _ (fun f h1 h2 h3' h4 => b79 _ _ _ _ _ ?_) (fun t ht ih f h1 h2 h3' h4 => b79 _ _ _ _ _ ?_)
      · simp only [zwp, oJump, oPush, oILoad, oALoad, oLLoad, oDLoad, oIStore, oAStore, oLStore, oDStore, oIinc, o_iadd, o_isub, o_imul, o_iand, o_ior, o_ixor, o_ishl, o_ishr, o_iushr, o_idiv, o_ladd, o_lsub, o_lmul, o_ldiv, o_lrem, o_ddiv, o_i2l, o_l2i, o_i2d, o_i2b, o_lcmp, o_dcmp, o_dup, o_dup2, o_pop, o_ic_eq, o_ic_ne, o_ic_lt, o_ic_ge, o_ic_gt, o_ic_le, o_if_eq, o_if_ne, o_if_lt, o_if_ge, o_if_gt, o_if_le, o_goto, oSwitch, zsw, oGetf, oPutI, oPutZ, oPutJ, oPutA, oIald, oLald, oDald, oBald, oZald, oIast, oLast, oDast, oBast, oZast, oAald, oAast, o_mmax, o_mmin, oCall, oCallM, oCallMV, oIret, oZret, oLret, oDret, oVret, oThrow, zMO, zThru, zpop, zShort, zRecv, zg, zok1, List.set_cons_zero, List.set_cons_succ, List.getElem?_cons_zero, List.getElem?_cons_succ, List.length_cons, List.length_nil, List.length_set, Option.toList_some, Option.toList_none, List.cons_append, List.nil_append, Value.category, true_and, and_true, Nat.zero_add, Nat.add_zero, Nat.le_refl, Nat.reduceAdd, Nat.reduceLT, zMo]
        refine ⟨fun _ => b175 _ _ _ _ _ ?_, fun h => absurd (by decide) h⟩
        simp only [zwp, oJump, oPush, oILoad, oALoad, oLLoad, oDLoad, oIStore, oAStore, oLStore, oDStore, oIinc, o_iadd, o_isub, o_imul, o_iand, o_ior, o_ixor, o_ishl, o_ishr, o_iushr, o_idiv, o_ladd, o_lsub, o_lmul, o_ldiv, o_lrem, o_ddiv, o_i2l, o_l2i, o_i2d, o_i2b, o_lcmp, o_dcmp, o_dup, o_dup2, o_pop, o_ic_eq, o_ic_ne, o_ic_lt, o_ic_ge, o_ic_gt, o_ic_le, o_if_eq, o_if_ne, o_if_lt, o_if_ge, o_if_gt, o_if_le, o_goto, oSwitch, zsw, oGetf, oPutI, oPutZ, oPutJ, oPutA, oIald, oLald, oDald, oBald, oZald, oIast, oLast, oDast, oBast, oZast, oAald, oAast, o_mmax, o_mmin, oCall, oCallM, oCallMV, oIret, oZret, oLret, oDret, oVret, oThrow, zMO, zThru, zpop, zShort, zRecv, zg, zok1, List.set_cons_zero, List.set_cons_succ, List.getElem?_cons_zero, List.getElem?_cons_succ, List.length_cons, List.length_nil, List.length_set, Option.toList_some, Option.toList_none, List.cons_append, List.nil_append, Value.category, true_and, and_true, Nat.zero_add, Nat.add_zero, Nat.le_refl, Nat.reduceAdd, Nat.reduceLT, zMo]
        rw [nI_1]
        refine ⟨f, by rw [hP, List.length_append]; rfl, ?_⟩
        rw [hP]
        intro k x hk
        by_cases e : k < L0.length
        · rw [List.getElem?_append_left e] at hk
          exact SvR_congr hL0 hS0 h1 k x hk
        · have hk2 : k < (L0 ++ [(mcN, S)]).length := (List.getElem?_eq_some_iff.mp hk).1
          rw [List.length_append] at hk2
          have : k = L0.length := by
            have : k < L0.length + 1 := hk2
            omega
          subst this
          rw [List.getElem?_append_right (Nat.le_refl _), Nat.sub_self] at hk
          have hk : some (mcN, S) = some x := hk
          cases hk
          refine ⟨h2, h3', fun t ht => ?_⟩
          obtain ⟨a1, a2, a3, a4, a5⟩ := h4 t (by have : t < tn S := ht; omega)
          obtain ⟨c1, c2, c3, c4, c5⟩ := hM t ht
          exact ⟨by rw [a1, c1], by rw [a2, c2], by rw [a3, c3], by rw [a4, c4], by rw [a5, c5]⟩
      · simp only [zwp, oJump, oPush, oILoad, oALoad, oLLoad, oDLoad, oIStore, oAStore, oLStore, oDStore, oIinc, o_iadd, o_isub, o_imul, o_iand, o_ior, o_ixor, o_ishl, o_ishr, o_iushr, o_idiv, o_ladd, o_lsub, o_lmul, o_ldiv, o_lrem, o_ddiv, o_i2l, o_l2i, o_i2d, o_i2b, o_lcmp, o_dcmp, o_dup, o_dup2, o_pop, o_ic_eq, o_ic_ne, o_ic_lt, o_ic_ge, o_ic_gt, o_ic_le, o_if_eq, o_if_ne, o_if_lt, o_if_ge, o_if_gt, o_if_le, o_goto, oSwitch, zsw, oGetf, oPutI, oPutZ, oPutJ, oPutA, oIald, oLald, oDald, oBald, oZald, oIast, oLast, oDast, oBast, oZast, oAald, oAast, o_mmax, o_mmin, oCall, oCallM, oCallMV, oIret, oZret, oLret, oDret, oVret, oThrow, zMO, zThru, zpop, zShort, zRecv, zg, zok1, List.set_cons_zero, List.set_cons_succ, List.getElem?_cons_zero, List.getElem?_cons_succ, List.length_cons, List.length_nil, List.length_set, Option.toList_some, Option.toList_none, List.cons_append, List.nil_append, Value.category, true_and, and_true, Nat.zero_add, Nat.add_zero, Nat.le_refl, Nat.reduceAdd, Nat.reduceLT, zMo]
        refine ⟨fun h => absurd ((nI_leI (a := 8) (by omega) (by omega)).mp h) (by omega), fun _ => b85 _ _ _ _ _ ?_⟩
        have vt := vin (n := t) (N := 8) (by omega) (by decide)
        have w1 := vin (n := 42 * L0.length + 2 + t) (N := 168) (by omega) (by decide)
        have w2 := vin (n := 42 * L0.length + 10 + t) (N := 168) (by omega) (by decide)
        have w3 := vin (n := 42 * L0.length + 18 + t) (N := 168) (by omega) (by decide)
        have w4 := vin (n := 42 * L0.length + 26 + t) (N := 168) (by omega) (by decide)
        have w5 := vin (n := 42 * L0.length + 34 + t) (N := 168) (by omega) (by decide)
        simp only [zwp, oJump, oPush, oILoad, oALoad, oLLoad, oDLoad, oIStore, oAStore, oLStore, oDStore, oIinc, o_iadd, o_isub, o_imul, o_iand, o_ior, o_ixor, o_ishl, o_ishr, o_iushr, o_idiv, o_ladd, o_lsub, o_lmul, o_ldiv, o_lrem, o_ddiv, o_i2l, o_l2i, o_i2d, o_i2b, o_lcmp, o_dcmp, o_dup, o_dup2, o_pop, o_ic_eq, o_ic_ne, o_ic_lt, o_ic_ge, o_ic_gt, o_ic_le, o_if_eq, o_if_ne, o_if_lt, o_if_ge, o_if_gt, o_if_le, o_goto, oSwitch, zsw, oGetf, oPutI, oPutZ, oPutJ, oPutA, oIald, oLald, oDald, oBald, oZald, oIast, oLast, oDast, oBast, oZast, oAald, oAast, o_mmax, o_mmin, oCall, oCallM, oCallMV, oIret, oZret, oLret, oDret, oVret, oThrow, zMO, zThru, zpop, zShort, zRecv, zg, zok1, List.set_cons_zero, List.set_cons_succ, List.getElem?_cons_zero, List.getElem?_cons_succ, List.length_cons, List.length_nil, List.length_set, Option.toList_some, Option.toList_none, List.cons_append, List.nil_append, Value.category, true_and, and_true, Nat.zero_add, Nat.add_zero, Nat.le_refl, Nat.reduceAdd, Nat.reduceLT, zMo]
        rw [show (2 : Int32) = nI 2 from rfl, show (10 : Int32) = nI 10 from rfl, show (18 : Int32) = nI 18 from rfl, show (26 : Int32) = nI 26 from rfl, show (34 : Int32) = nI 34 from rfl]
        simp only [nI_add]
        rw [cl (n := t) (by omega), cl (n := 42 * L0.length + 2 + t) (by omega), cl (n := 42 * L0.length + 10 + t) (by omega), cl (n := 42 * L0.length + 18 + t) (by omega), cl (n := 42 * L0.length + 26 + t) (by omega), cl (n := 42 * L0.length + 34 + t) (by omega), nI_1]
        refine ⟨vt, w1, vt, w2, vt, w3, vt, w4, vt, w5, ih _ (fun j hj => ?_) ?_ ?_ (fun u hu => ?_)⟩
        · rw [upd_ne (by omega), upd_ne (by omega), upd_ne (by omega), upd_ne (by omega), upd_ne (by omega), h1 j hj]
        · rw [upd_ne (by omega), upd_ne (by omega), upd_ne (by omega), upd_ne (by omega), upd_ne (by omega), h2]
        · rw [upd_ne (by omega), upd_ne (by omega), upd_ne (by omega), upd_ne (by omega), upd_ne (by omega), h3']
        · by_cases e : u = t
          · subst e
            refine ⟨?_, ?_, ?_, ?_, ?_⟩
            · rw [upd_ne (by omega), upd_ne (by omega), upd_ne (by omega), upd_ne (by omega), upd_at]
            · rw [upd_ne (by omega), upd_ne (by omega), upd_ne (by omega), upd_at]
            · rw [upd_ne (by omega), upd_ne (by omega), upd_at]
            · rw [upd_ne (by omega), upd_at]
            · rw [upd_at]
          · obtain ⟨a1, a2, a3, a4, a5⟩ := h4 u (by omega)
            refine ⟨?_, ?_, ?_, ?_, ?_⟩
            · rw [upd_ne (by omega), upd_ne (by omega), upd_ne (by omega), upd_ne (by omega), upd_ne (by omega), a1]
            · rw [upd_ne (by omega), upd_ne (by omega), upd_ne (by omega), upd_ne (by omega), upd_ne (by omega), a2]
            · rw [upd_ne (by omega), upd_ne (by omega), upd_ne (by omega), upd_ne (by omega), upd_ne (by omega), a3]
            · rw [upd_ne (by omega), upd_ne (by omega), upd_ne (by omega), upd_ne (by omega), upd_ne (by omega), a4]
            · rw [upd_ne (by omega), upd_ne (by omega), upd_ne (by omega), upd_ne (by omega), upd_ne (by omega), a5]
    refine loop 0 (by omega) _ (fun j hj => ?_) ?_ ?_ (fun u hu => absurd hu (Nat.not_lt_zero _))
    · rw [upd_ne (by omega), upd_ne (by omega)]
    · rw [upd_ne (by omega), upd_at]
    · rw [upd_at]
  refine b0 _ _ _ _ _ ?_
  simp only [zwp, oJump, oPush, oILoad, oALoad, oLLoad, oDLoad, oIStore, oAStore, oLStore, oDStore, oIinc, o_iadd, o_isub, o_imul, o_iand, o_ior, o_ixor, o_ishl, o_ishr, o_iushr, o_idiv, o_ladd, o_lsub, o_lmul, o_ldiv, o_lrem, o_ddiv, o_i2l, o_l2i, o_i2d, o_i2b, o_lcmp, o_dcmp, o_dup, o_dup2, o_pop, o_ic_eq, o_ic_ne, o_ic_lt, o_ic_ge, o_ic_gt, o_ic_le, o_if_eq, o_if_ne, o_if_lt, o_if_ge, o_if_gt, o_if_le, o_goto, oSwitch, zsw, oGetf, oPutI, oPutZ, oPutJ, oPutA, oIald, oLald, oDald, oBald, oZald, oIast, oLast, oDast, oBast, oZast, oAald, oAast, o_mmax, o_mmin, oCall, oCallM, oCallMV, oIret, oZret, oLret, oDret, oVret, oThrow, zMO, zThru, zpop, zShort, zRecv, zg, zok1, List.set_cons_zero, List.set_cons_succ, List.getElem?_cons_zero, List.getElem?_cons_succ, List.length_cons, List.length_nil, List.length_set, Option.toList_some, Option.toList_none, List.cons_append, List.nil_append, Value.category, true_and, and_true, Nat.zero_add, Nat.add_zero, Nat.le_refl, Nat.reduceAdd, Nat.reduceLT, zMo]
  rw [show (4 : Int32) = nI 4 from rfl, nI_eq (by omega) (by omega)]
  refine ⟨fun h => n47 L fs none (by omega) hS (fun k x hk => hL.le hk) (by rw [svP, if_neg h]), fun h => b8 _ _ _ _ _ ?_⟩
  rw [Classical.not_not] at h
  simp only [zwp, oJump, oPush, oILoad, oALoad, oLLoad, oDLoad, oIStore, oAStore, oLStore, oDStore, oIinc, o_iadd, o_isub, o_imul, o_iand, o_ior, o_ixor, o_ishl, o_ishr, o_iushr, o_idiv, o_ladd, o_lsub, o_lmul, o_ldiv, o_lrem, o_ddiv, o_i2l, o_l2i, o_i2d, o_i2b, o_lcmp, o_dcmp, o_dup, o_dup2, o_pop, o_ic_eq, o_ic_ne, o_ic_lt, o_ic_ge, o_ic_gt, o_ic_le, o_if_eq, o_if_ne, o_if_lt, o_if_ge, o_if_gt, o_if_le, o_goto, oSwitch, zsw, oGetf, oPutI, oPutZ, oPutJ, oPutA, oIald, oLald, oDald, oBald, oZald, oIast, oLast, oDast, oBast, oZast, oAald, oAast, o_mmax, o_mmin, oCall, oCallM, oCallMV, oIret, oZret, oLret, oDret, oVret, oThrow, zMO, zThru, zpop, zShort, zRecv, zg, zok1, List.set_cons_zero, List.set_cons_succ, List.getElem?_cons_zero, List.getElem?_cons_succ, List.length_cons, List.length_nil, List.length_set, Option.toList_some, Option.toList_none, List.cons_append, List.nil_append, Value.category, true_and, and_true, Nat.zero_add, Nat.add_zero, Nat.le_refl, Nat.reduceAdd, Nat.reduceLT, zMo]
  have loop : ∀ k, k ≤ 126 → K 10 [some (.ref 0), some (.int (nI k)), none] [] (zMo th (nI mcN) (nI (tn S)) (nI L.length) ty ch ixa wr om db fm fr fd fp fg ((cpy k (fun j => fs (j + 42)) fs)) ftx fF fL fA sF sL sW fO rw br st bs du fo) 0 0 := by
    refine zdown _ _ (b10 _ _ _ _ _ ?_) (fun k hk ih => b10 _ _ _ _ _ ?_)
    · simp only [zwp, oJump, oPush, oILoad, oALoad, oLLoad, oDLoad, oIStore, oAStore, oLStore, oDStore, oIinc, o_iadd, o_isub, o_imul, o_iand, o_ior, o_ixor, o_ishl, o_ishr, o_iushr, o_idiv, o_ladd, o_lsub, o_lmul, o_ldiv, o_lrem, o_ddiv, o_i2l, o_l2i, o_i2d, o_i2b, o_lcmp, o_dcmp, o_dup, o_dup2, o_pop, o_ic_eq, o_ic_ne, o_ic_lt, o_ic_ge, o_ic_gt, o_ic_le, o_if_eq, o_if_ne, o_if_lt, o_if_ge, o_if_gt, o_if_le, o_goto, oSwitch, zsw, oGetf, oPutI, oPutZ, oPutJ, oPutA, oIald, oLald, oDald, oBald, oZald, oIast, oLast, oDast, oBast, oZast, oAald, oAast, o_mmax, o_mmin, oCall, oCallM, oCallMV, oIret, oZret, oLret, oDret, oVret, oThrow, zMO, zThru, zpop, zShort, zRecv, zg, zok1, List.set_cons_zero, List.set_cons_succ, List.getElem?_cons_zero, List.getElem?_cons_succ, List.length_cons, List.length_nil, List.length_set, Option.toList_some, Option.toList_none, List.cons_append, List.nil_append, Value.category, true_and, and_true, Nat.zero_add, Nat.add_zero, Nat.le_refl, Nat.reduceAdd, Nat.reduceLT, zMo]
      refine ⟨fun _ => b37 _ _ _ _ _ ?_, fun h => absurd (by decide) h⟩
      simp only [zwp, oJump, oPush, oILoad, oALoad, oLLoad, oDLoad, oIStore, oAStore, oLStore, oDStore, oIinc, o_iadd, o_isub, o_imul, o_iand, o_ior, o_ixor, o_ishl, o_ishr, o_iushr, o_idiv, o_ladd, o_lsub, o_lmul, o_ldiv, o_lrem, o_ddiv, o_i2l, o_l2i, o_i2d, o_i2b, o_lcmp, o_dcmp, o_dup, o_dup2, o_pop, o_ic_eq, o_ic_ne, o_ic_lt, o_ic_ge, o_ic_gt, o_ic_le, o_if_eq, o_if_ne, o_if_lt, o_if_ge, o_if_gt, o_if_le, o_goto, oSwitch, zsw, oGetf, oPutI, oPutZ, oPutJ, oPutA, oIald, oLald, oDald, oBald, oZald, oIast, oLast, oDast, oBast, oZast, oAald, oAast, o_mmax, o_mmin, oCall, oCallM, oCallMV, oIret, oZret, oLret, oDret, oVret, oThrow, zMO, zThru, zpop, zShort, zRecv, zg, zok1, List.set_cons_zero, List.set_cons_succ, List.getElem?_cons_zero, List.getElem?_cons_succ, List.length_cons, List.length_nil, List.length_set, Option.toList_some, Option.toList_none, List.cons_append, List.nil_append, Value.category, true_and, and_true, Nat.zero_add, Nat.add_zero, Nat.le_refl, Nat.reduceAdd, Nat.reduceLT, zMo]
      have e : nI L.length - 1 = nI L.tail.length := by
        rw [h, List.length_tail, h]; rfl
      rw [e]
      refine n47 L.tail _ _ (by rw [List.length_tail]; omega) ?_ (fun k x hk => ?_) (by rw [svP, if_pos h])
      · refine SvR_congr (fun k x hk => ?_) (SvR_tail hS) (fun j hj => ?_)
        · rw [List.getElem?_tail] at hk
          exact hL.le hk
        · rw [List.length_tail, h] at hj
          exact if_pos (by omega)
      · rw [List.getElem?_tail] at hk
        exact hL.le hk
    · simp only [zwp, oJump, oPush, oILoad, oALoad, oLLoad, oDLoad, oIStore, oAStore, oLStore, oDStore, oIinc, o_iadd, o_isub, o_imul, o_iand, o_ior, o_ixor, o_ishl, o_ishr, o_iushr, o_idiv, o_ladd, o_lsub, o_lmul, o_ldiv, o_lrem, o_ddiv, o_i2l, o_l2i, o_i2d, o_i2b, o_lcmp, o_dcmp, o_dup, o_dup2, o_pop, o_ic_eq, o_ic_ne, o_ic_lt, o_ic_ge, o_ic_gt, o_ic_le, o_if_eq, o_if_ne, o_if_lt, o_if_ge, o_if_gt, o_if_le, o_goto, oSwitch, zsw, oGetf, oPutI, oPutZ, oPutJ, oPutA, oIald, oLald, oDald, oBald, oZald, oIast, oLast, oDast, oBast, oZast, oAald, oAast, o_mmax, o_mmin, oCall, oCallM, oCallMV, oIret, oZret, oLret, oDret, oVret, oThrow, zMO, zThru, zpop, zShort, zRecv, zg, zok1, List.set_cons_zero, List.set_cons_succ, List.getElem?_cons_zero, List.getElem?_cons_succ, List.length_cons, List.length_nil, List.length_set, Option.toList_some, Option.toList_none, List.cons_append, List.nil_append, Value.category, true_and, and_true, Nat.zero_add, Nat.add_zero, Nat.le_refl, Nat.reduceAdd, Nat.reduceLT, zMo]
      refine ⟨fun h => absurd ((nI_leI (a := 126) (by omega) (by omega)).mp h) (by omega), fun _ => b16 _ _ _ _ _ ?_⟩
      have v1 := vin (n := k) (N := 168) (by omega) (by decide)
      have v2 := vin (n := k + 42) (N := 168) (by omega) (by decide)
      simp only [zwp, oJump, oPush, oILoad, oALoad, oLLoad, oDLoad, oIStore, oAStore, oLStore, oDStore, oIinc, o_iadd, o_isub, o_imul, o_iand, o_ior, o_ixor, o_ishl, o_ishr, o_iushr, o_idiv, o_ladd, o_lsub, o_lmul, o_ldiv, o_lrem, o_ddiv, o_i2l, o_l2i, o_i2d, o_i2b, o_lcmp, o_dcmp, o_dup, o_dup2, o_pop, o_ic_eq, o_ic_ne, o_ic_lt, o_ic_ge, o_ic_gt, o_ic_le, o_if_eq, o_if_ne, o_if_lt, o_if_ge, o_if_gt, o_if_le, o_goto, oSwitch, zsw, oGetf, oPutI, oPutZ, oPutJ, oPutA, oIald, oLald, oDald, oBald, oZald, oIast, oLast, oDast, oBast, oZast, oAald, oAast, o_mmax, o_mmin, oCall, oCallM, oCallMV, oIret, oZret, oLret, oDret, oVret, oThrow, zMO, zThru, zpop, zShort, zRecv, zg, zok1, List.set_cons_zero, List.set_cons_succ, List.getElem?_cons_zero, List.getElem?_cons_succ, List.length_cons, List.length_nil, List.length_set, Option.toList_some, Option.toList_none, List.cons_append, List.nil_append, Value.category, true_and, and_true, Nat.zero_add, Nat.add_zero, Nat.le_refl, Nat.reduceAdd, Nat.reduceLT, zMo]
      rw [show (42 : Int32) = nI 42 from rfl, nI_add, cl (by omega), cl (by omega), nI_1, show cpy k (fun j => fs (j + 42)) fs (k + 42) = (fun j => fs (j + 42)) k from if_neg (by omega), cpy_s]
      exact ⟨v2, v1, ih⟩
  have := loop 0 (by omega)
  rw [cpy_0] at this
  exact this
end MO24
