-- pics: zMo
/-! THE REFERENCE: rule 4, reason -/
section MO5
variable {l : Launch} {th mc n sv ty ch ixa wr om : Int32} {db : Int64} {fm fr fd fp fg fs ftx fF fL fA sF sL sW fO rw br st bs du fo : Nat → Int32}
theorem setI_le {F : Nat → Int} {i : Nat} {v : Int} (hv : v > F i) (t : Nat) : F t ≤ setI F i v t := by
  by_cases e : t = i
  · subst e; rw [setI_at]; omega
  · rw [setI_ne e]; exact Int.le_refl _
theorem setI_ge {F : Nat → Int} {i : Nat} {v : Int} (hv : v < F i) (t : Nat) : setI F i v t ≤ F t := by
  by_cases e : t = i
  · subst e; rw [setI_at]; omega
  · rw [setI_ne e]; exact Int.le_refl _
theorem Gr.setF {S : TS} {F0 L0 F L : Nat → Int} {B0 B : Nat → Nat} {ch : Bool} {i : Nat} {v : Int} (h : Gr S F0 L0 B0 F L B ch) (hB0 : BLt (tn S) B0) (hi : i < tn S) (ht : Told S (setI F i v) L B) (hv : v > F i) : Gr S F0 L0 B0 (setI F i v) L B true := by
  have := h.step hB0 ht (fun t ht9 => ⟨setI_le hv t, Int.le_refl _, fun _ _ h => h⟩) h.2.2.1 (q := true) ⟨fun _ hs => (by have := (hs i hi).1; rw [setI_at] at this; omega), fun _ => rfl⟩
  simpa using this
theorem Gr.setL {S : TS} {F0 L0 F L : Nat → Int} {B0 B : Nat → Nat} {ch : Bool} {i : Nat} {v : Int} (h : Gr S F0 L0 B0 F L B ch) (hB0 : BLt (tn S) B0) (hi : i < tn S) (ht : Told S F (setI L i v) B) (hv : v < L i) : Gr S F0 L0 B0 F (setI L i v) B true := by
  have := h.step hB0 ht (fun t ht9 => ⟨Int.le_refl _, setI_ge hv t, fun _ _ h => h⟩) h.2.2.1 (q := true) ⟨fun _ hs => (by have := (hs i hi).2.1; rw [setI_at] at this; omega), fun _ => rfl⟩
  simpa using this
theorem MRe.putF {n : Nat} {F L : Nat → Int} {B : Nat → Nat} {fF fL fA : Nat → Int32} (h : MRe n F L B fF fL fA) (i : Nat) (v : Int) : MRe n (setI F i v) L B (upd fF i (iI v)) fL fA := fun t ht => by
  by_cases e : t = i
  · subst e; rw [setI_at, upd_at]; exact ⟨rfl, (h t ht).2⟩
  · rw [setI_ne e, upd_ne e]; exact h t ht
theorem MRe.putL {n : Nat} {F L : Nat → Int} {B : Nat → Nat} {fF fL fA : Nat → Int32} (h : MRe n F L B fF fL fA) (i : Nat) (v : Int) : MRe n F (setI L i v) B fF (upd fL i (iI v)) fA := fun t ht => by
  by_cases e : t = i
  · subst e; rw [setI_at, upd_at]; exact ⟨(h t ht).1, rfl, (h t ht).2.2⟩
  · rw [setI_ne e, upd_ne e]; exact h t ht
set_option maxRecDepth 100000 in
theorem m_ruleFour (hfl : l.stackTraces = false) {S : TS} {mcN : Nat} (hok : TSok S mcN) {F0 L0 : Nat → Int} {B0 : Nat → Nat} (hB0 : StB (tn S) F0 L0 B0) (hb0 : ∀ t, t < tn S → F0 t ≤ 400 ∧ 0 ≤ L0 t) (hS : MSet S F0 L0 sF sL sW fO) {F L : Nat → Int} {B : Nat → Nat} {ch : Bool} (hSt : StB (tn S) F L B) (hR0 : MRe (tn S) F L B fF fL fA) (hG0 : Gr S F0 L0 B0 F L B ch) {T i A : Nat} (h0 : T ≠ 0) (hT : T < 2 ^ tn S) (hi : i < tn S) (hA : ∀ j, A.testBit j = true → bt B j i) (hA2 : ch = false → A = ahd (tn S) B0 i) : Can l yX8_ruleFour wsX8_ruleFour 0 0 0 [.ref 0, .int (nI i), .int (nI T), .int (nI A)] (zMo th mc (nI (tn S)) sv ty (zb ch) ixa wr om db fm fr fd fp fg fs ftx fF fL fA sF sL sW fO rw br st bs du fo) (fun o w' => ∃ ch' fF' fL' F' L', o = .inl none ∧ w' = (zMo th mc (nI (tn S)) sv ty (zb ch') ixa wr om db fm fr fd fp fg fs ftx fF' fL' fA sF sL sW fO rw br st bs du fo) ∧ MRe (tn S) F' L' B fF' fL' fA ∧ StB (tn S) F' L' B ∧ Gr S F0 L0 B0 F' L' B ch' ∧ (ch' = false → ch = false ∧ D4 S F0 L0 B0 i T)) := by
  have hn := hok.1
  have hBl : BLt (tn S) B0 := fun t ht => (hB0 t ht).2.2
  have hT8 := two8 hT hn
  have vT := vin (n := T) (N := 256) hT8 (by decide)
  have cT := cl (n := T) (by omega)
  have vi := vin (n := i) (N := 8) (by omega) (by decide)
  have ci := cl (n := i) (by omega)
  obtain ⟨e1, e2, e3, e4⟩ := hS T h0 hT
  have hex := exists_bit h0 hT
  have q1 := num_b hok hB0 T
  obtain ⟨x, x1, x2, x3⟩ := mnF_at (F := F0) (T := T) (k := tn S) hex (fun t ht => by have := (hB0 t ht).1.2; omega)
  obtain ⟨y, y1, y2, y3⟩ := mxL_at (L := L0) (T := T) (k := tn S) hex (fun t ht => by have := (hB0 t ht).2.1.1; omega)
  have hx := (hb0 x x1).1
  have hy := (hb0 y y1).2
  have si := hSt i hi
  refine zm_X8_ruleFour hfl ?_
  intro K wk b0 b9 b10 b33 b44 b57 b85 b96 b109
  refine b0 _ _ _ _ _ ?_
  simp only [zwp, oJump, oPush, oILoad, oALoad, oLLoad, oDLoad, oIStore, oAStore, oLStore, oDStore, oIinc, o_iadd, o_isub, o_imul, o_iand, o_ior, o_ixor, o_ishl, o_ishr, o_iushr, o_idiv, o_ladd, o_lsub, o_lmul, o_ldiv, o_lrem, o_ddiv, o_i2l, o_l2i, o_i2d, o_i2b, o_lcmp, o_dcmp, o_dup, o_dup2, o_pop, o_ic_eq, o_ic_ne, o_ic_lt, o_ic_ge, o_ic_gt, o_ic_le, o_if_eq, o_if_ne, o_if_lt, o_if_ge, o_if_gt, o_if_le, o_goto, oSwitch, zsw, oGetf, oPutI, oPutZ, oPutJ, oPutA, oIald, oLald, oDald, oBald, oZald, oIast, oLast, oDast, oBast, oZast, oAald, oAast, o_mmax, o_mmin, oCall, oCallM, oCallMV, oIret, oZret, oLret, oDret, oVret, oThrow, zMO, zThru, zpop, zShort, zRecv, zg, zok1, List.set_cons_zero, List.set_cons_succ, List.getElem?_cons_zero, List.getElem?_cons_succ, List.length_cons, List.length_nil, List.length_set, Option.toList_some, Option.toList_none, List.cons_append, List.nil_append, Value.category, true_and, and_true, Nat.zero_add, Nat.add_zero, Nat.le_refl, Nat.reduceAdd, Nat.reduceLT, zMo]
  rw [cT, e4]
  refine ⟨vT, fun h => b10 _ _ _ _ _ ?_, fun h => b9 _ _ _ _ _ ?_⟩
  rotate_left
  · simp only [zwp, oJump, oPush, oILoad, oALoad, oLLoad, oDLoad, oIStore, oAStore, oLStore, oDStore, oIinc, o_iadd, o_isub, o_imul, o_iand, o_ior, o_ixor, o_ishl, o_ishr, o_iushr, o_idiv, o_ladd, o_lsub, o_lmul, o_ldiv, o_lrem, o_ddiv, o_i2l, o_l2i, o_i2d, o_i2b, o_lcmp, o_dcmp, o_dup, o_dup2, o_pop, o_ic_eq, o_ic_ne, o_ic_lt, o_ic_ge, o_ic_gt, o_ic_le, o_if_eq, o_if_ne, o_if_lt, o_if_ge, o_if_gt, o_if_le, o_goto, oSwitch, zsw, oGetf, oPutI, oPutZ, oPutJ, oPutA, oIald, oLald, oDald, oBald, oZald, oIast, oLast, oDast, oBast, oZast, oAald, oAast, o_mmax, o_mmin, oCall, oCallM, oCallMV, oIret, oZret, oLret, oDret, oVret, oThrow, zMO, zThru, zpop, zShort, zRecv, zg, zok1, List.set_cons_zero, List.set_cons_succ, List.getElem?_cons_zero, List.getElem?_cons_succ, List.length_cons, List.length_nil, List.length_set, Option.toList_some, Option.toList_none, List.cons_append, List.nil_append, Value.category, true_and, and_true, Nat.zero_add, Nat.add_zero, Nat.le_refl, Nat.reduceAdd, Nat.reduceLT, zMo]
    rw [Classical.not_not, zb_eq0] at h
    exact ⟨ch, fF, fL, F, L, rfl, hR0, hSt, hG0, fun hc => ⟨hc, fun ho => (by rw [h] at ho; cases ho)⟩⟩
  have ho : oneZ S T (tn S) = true := zb_ne0.mp h
  have hone : sOne S T := (oneZ_iff h0 hT).mp ho
  have n109 : ∀ (fF2 fL2 : Nat → Int32) (F2 L2 : Nat → Int) (ch2 : Bool) (a b : Option Value), MRe (tn S) F2 L2 B fF2 fL2 fA → StB (tn S) F2 L2 B → Gr S F0 L0 B0 F2 L2 B ch2 → (ch2 = false → ch = false ∧ D4 S F0 L0 B0 i T) → K 109 [some (.ref 0), some (.int (nI i)), some (.int (nI T)), some (.int (nI A)), a, b] [] (zMo th mc (nI (tn S)) sv ty (zb ch2) ixa wr om db fm fr fd fp fg fs ftx fF2 fL2 fA sF sL sW fO rw br st bs du fo) 0 0 := fun fF2 fL2 F2 L2 ch2 a b g1 g2 g3 g4 => b109 _ _ _ _ _ (by
    simp only [zwp, oJump, oPush, oILoad, oALoad, oLLoad, oDLoad, oIStore, oAStore, oLStore, oDStore, oIinc, o_iadd, o_isub, o_imul, o_iand, o_ior, o_ixor, o_ishl, o_ishr, o_iushr, o_idiv, o_ladd, o_lsub, o_lmul, o_ldiv, o_lrem, o_ddiv, o_i2l, o_l2i, o_i2d, o_i2b, o_lcmp, o_dcmp, o_dup, o_dup2, o_pop, o_ic_eq, o_ic_ne, o_ic_lt, o_ic_ge, o_ic_gt, o_ic_le, o_if_eq, o_if_ne, o_if_lt, o_if_ge, o_if_gt, o_if_le, o_goto, oSwitch, zsw, oGetf, oPutI, oPutZ, oPutJ, oPutA, oIald, oLald, oDald, oBald, oZald, oIast, oLast, oDast, oBast, oZast, oAald, oAast, o_mmax, o_mmin, oCall, oCallM, oCallMV, oIret, oZret, oLret, oDret, oVret, oThrow, zMO, zThru, zpop, zShort, zRecv, zg, zok1, List.set_cons_zero, List.set_cons_succ, List.getElem?_cons_zero, List.getElem?_cons_succ, List.length_cons, List.length_nil, List.length_set, Option.toList_some, Option.toList_none, List.cons_append, List.nil_append, Value.category, true_and, and_true, Nat.zero_add, Nat.add_zero, Nat.le_refl, Nat.reduceAdd, Nat.reduceLT, zMo]
    exact ⟨ch2, fF2, fL2, F2, L2, rfl, g1, g2, g3, g4⟩)
  have n57 : ∀ (fF2 : Nat → Int32) (F2 : Nat → Int) (ch2 : Bool) (a : Int32), MRe (tn S) F2 L B fF2 fL fA → StB (tn S) F2 L B → Gr S F0 L0 B0 F2 L B ch2 → (ch2 = false → ch = false ∧ (nd T (ahd (tn S) B0 i) = 0 → mnF F0 T (tn S) + dur S T ≤ F0 i)) → K 57 [some (.ref 0), some (.int (nI i)), some (.int (nI T)), some (.int (nI A)), some (.int a), none] [] (zMo th mc (nI (tn S)) sv ty (zb ch2) ixa wr om db fm fr fd fp fg fs ftx fF2 fL fA sF sL sW fO rw br st bs du fo) 0 0 := fun fF2 F2 ch2 a g1 g2 g3 g4 => b57 _ _ _ _ _ (by
    simp only [zwp, oJump, oPush, oILoad, oALoad, oLLoad, oDLoad, oIStore, oAStore, oLStore, oDStore, oIinc, o_iadd, o_isub, o_imul, o_iand, o_ior, o_ixor, o_ishl, o_ishr, o_iushr, o_idiv, o_ladd, o_lsub, o_lmul, o_ldiv, o_lrem, o_ddiv, o_i2l, o_l2i, o_i2d, o_i2b, o_lcmp, o_dcmp, o_dup, o_dup2, o_pop, o_ic_eq, o_ic_ne, o_ic_lt, o_ic_ge, o_ic_gt, o_ic_le, o_if_eq, o_if_ne, o_if_lt, o_if_ge, o_if_gt, o_if_le, o_goto, oSwitch, zsw, oGetf, oPutI, oPutZ, oPutJ, oPutA, oIald, oLald, oDald, oBald, oZald, oIast, oLast, oDast, oBast, oZast, oAald, oAast, o_mmax, o_mmin, oCall, oCallM, oCallMV, oIret, oZret, oLret, oDret, oVret, oThrow, zMO, zThru, zpop, zShort, zRecv, zg, zok1, List.set_cons_zero, List.set_cons_succ, List.getElem?_cons_zero, List.getElem?_cons_succ, List.length_cons, List.length_nil, List.length_set, Option.toList_some, Option.toList_none, List.cons_append, List.nil_append, Value.category, true_and, and_true, Nat.zero_add, Nat.add_zero, Nat.le_refl, Nat.reduceAdd, Nat.reduceLT, zMo]
    rw [cT, e2, e3, ci, (g1 i hi).2.2, n_andn, iI_sn, show (0 : Int32) = nI 0 from rfl, nI_eq (nd_lt (by omega)) (by decide)]
    refine ⟨vT, vT, vi, fun hne => n109 _ _ _ _ _ _ _ g1 g2 g3 (fun hc => ⟨(g4 hc).1, fun _ => ⟨(g4 hc).2, fun h9 => absurd ?_ hne⟩⟩), fun hs => b85 _ _ _ _ _ ?_⟩
    · rw [← (g3.same hc i hi).2.2]; exact h9
    · rw [Classical.not_not] at hs
      simp only [zwp, oJump, oPush, oILoad, oALoad, oLLoad, oDLoad, oIStore, oAStore, oLStore, oDStore, oIinc, o_iadd, o_isub, o_imul, o_iand, o_ior, o_ixor, o_ishl, o_ishr, o_iushr, o_idiv, o_ladd, o_lsub, o_lmul, o_ldiv, o_lrem, o_ddiv, o_i2l, o_l2i, o_i2d, o_i2b, o_lcmp, o_dcmp, o_dup, o_dup2, o_pop, o_ic_eq, o_ic_ne, o_ic_lt, o_ic_ge, o_ic_gt, o_ic_le, o_if_eq, o_if_ne, o_if_lt, o_if_ge, o_if_gt, o_if_le, o_goto, oSwitch, zsw, oGetf, oPutI, oPutZ, oPutJ, oPutA, oIald, oLald, oDald, oBald, oZald, oIast, oLast, oDast, oBast, oZast, oAald, oAast, o_mmax, o_mmin, oCall, oCallM, oCallMV, oIret, oZret, oLret, oDret, oVret, oThrow, zMO, zThru, zpop, zShort, zRecv, zg, zok1, List.set_cons_zero, List.set_cons_succ, List.getElem?_cons_zero, List.getElem?_cons_succ, List.length_cons, List.length_nil, List.length_set, Option.toList_some, Option.toList_none, List.cons_append, List.nil_append, Value.category, true_and, and_true, Nat.zero_add, Nat.add_zero, Nat.le_refl, Nat.reduceAdd, Nat.reduceLT, zMo]
      rw [ci, (g1 i hi).2.1, iI_le (in32 (by omega) (by omega)) (in32 (by omega) (by omega))]
      refine ⟨vi, fun hle => n109 _ _ _ _ _ _ _ g1 g2 g3 (fun hc => ⟨(g4 hc).1, fun _ => ⟨(g4 hc).2, fun h9 => ?_⟩⟩), fun hgt => b96 _ _ _ _ _ ?_⟩
      · rw [(g3.same hc i hi).2.1]
        unfold dur
        omega
      · simp only [zwp, oJump, oPush, oILoad, oALoad, oLLoad, oDLoad, oIStore, oAStore, oLStore, oDStore, oIinc, o_iadd, o_isub, o_imul, o_iand, o_ior, o_ixor, o_ishl, o_ishr, o_iushr, o_idiv, o_ladd, o_lsub, o_lmul, o_ldiv, o_lrem, o_ddiv, o_i2l, o_l2i, o_i2d, o_i2b, o_lcmp, o_dcmp, o_dup, o_dup2, o_pop, o_ic_eq, o_ic_ne, o_ic_lt, o_ic_ge, o_ic_gt, o_ic_le, o_if_eq, o_if_ne, o_if_lt, o_if_ge, o_if_gt, o_if_le, o_goto, oSwitch, zsw, oGetf, oPutI, oPutZ, oPutJ, oPutA, oIald, oLald, oDald, oBald, oZald, oIast, oLast, oDast, oBast, oZast, oAald, oAast, o_mmax, o_mmin, oCall, oCallM, oCallMV, oIret, oZret, oLret, oDret, oVret, oThrow, zMO, zThru, zpop, zShort, zRecv, zg, zok1, List.set_cons_zero, List.set_cons_succ, List.getElem?_cons_zero, List.getElem?_cons_succ, List.length_cons, List.length_nil, List.length_set, Option.toList_some, Option.toList_none, List.cons_append, List.nil_append, Value.category, true_and, and_true, Nat.zero_add, Nat.add_zero, Nat.le_refl, Nat.reduceAdd, Nat.reduceLT, zMo]
        rw [ci]
        refine ⟨vi, Or.inr trivial, n109 _ _ _ _ true _ _ (g1.putL i (mxL L0 T (tn S) - (sSum (tP S) T (tn S) : Nat))) (fun t ht => ?_) (g3.setL hBl hi (told4b g3.1 hi hone (fun j hj => nd_zero.mp hs j hj) (fun u hu => ?_)) (by omega)) (fun hc => (by cases hc))⟩
        · by_cases e : t = i
          · subst e
            rw [setI_at]
            exact ⟨(g2 t ht).1, by omega, (g2 t ht).2.2⟩
          · rw [setI_ne e]; exact g2 t ht
        · have hu1 := mxL_ge (L := L0) (bit_lt hT hu) hu
          have hu2 := (g3.2.1 u (bit_lt hT hu)).2.1
          unfold dur
          omega)
  simp only [zwp, oJump, oPush, oILoad, oALoad, oLLoad, oDLoad, oIStore, oAStore, oLStore, oDStore, oIinc, o_iadd, o_isub, o_imul, o_iand, o_ior, o_ixor, o_ishl, o_ishr, o_iushr, o_idiv, o_ladd, o_lsub, o_lmul, o_ldiv, o_lrem, o_ddiv, o_i2l, o_l2i, o_i2d, o_i2b, o_lcmp, o_dcmp, o_dup, o_dup2, o_pop, o_ic_eq, o_ic_ne, o_ic_lt, o_ic_ge, o_ic_gt, o_ic_le, o_if_eq, o_if_ne, o_if_lt, o_if_ge, o_if_gt, o_if_le, o_goto, oSwitch, zsw, oGetf, oPutI, oPutZ, oPutJ, oPutA, oIald, oLald, oDald, oBald, oZald, oIast, oLast, oDast, oBast, oZast, oAald, oAast, o_mmax, o_mmin, oCall, oCallM, oCallMV, oIret, oZret, oLret, oDret, oVret, oThrow, zMO, zThru, zpop, zShort, zRecv, zg, zok1, List.set_cons_zero, List.set_cons_succ, List.getElem?_cons_zero, List.getElem?_cons_succ, List.length_cons, List.length_nil, List.length_set, Option.toList_some, Option.toList_none, List.cons_append, List.nil_append, Value.category, true_and, and_true, Nat.zero_add, Nat.add_zero, Nat.le_refl, Nat.reduceAdd, Nat.reduceLT, zMo]
  rw [cT, e1, e3, n_andn, iI_an, show (0 : Int32) = nI 0 from rfl, nI_eq (nd_lt (by omega)) (by decide)]
  refine ⟨vT, vT, fun hne => n57 _ _ _ _ hR0 hSt hG0 (fun hc => ⟨hc, fun h9 => absurd (by rw [hA2 hc]; exact h9) hne⟩), fun hs => b33 _ _ _ _ _ ?_⟩
  rw [Classical.not_not] at hs
  simp only [zwp, oJump, oPush, oILoad, oALoad, oLLoad, oDLoad, oIStore, oAStore, oLStore, oDStore, oIinc, o_iadd, o_isub, o_imul, o_iand, o_ior, o_ixor, o_ishl, o_ishr, o_iushr, o_idiv, o_ladd, o_lsub, o_lmul, o_ldiv, o_lrem, o_ddiv, o_i2l, o_l2i, o_i2d, o_i2b, o_lcmp, o_dcmp, o_dup, o_dup2, o_pop, o_ic_eq, o_ic_ne, o_ic_lt, o_ic_ge, o_ic_gt, o_ic_le, o_if_eq, o_if_ne, o_if_lt, o_if_ge, o_if_gt, o_if_le, o_goto, oSwitch, zsw, oGetf, oPutI, oPutZ, oPutJ, oPutA, oIald, oLald, oDald, oBald, oZald, oIast, oLast, oDast, oBast, oZast, oAald, oAast, o_mmax, o_mmin, oCall, oCallM, oCallMV, oIret, oZret, oLret, oDret, oVret, oThrow, zMO, zThru, zpop, zShort, zRecv, zg, zok1, List.set_cons_zero, List.set_cons_succ, List.getElem?_cons_zero, List.getElem?_cons_succ, List.length_cons, List.length_nil, List.length_set, Option.toList_some, Option.toList_none, List.cons_append, List.nil_append, Value.category, true_and, and_true, Nat.zero_add, Nat.add_zero, Nat.le_refl, Nat.reduceAdd, Nat.reduceLT, zMo]
  rw [ci, (hR0 i hi).1, iI_le (in32 (by omega) (by omega)) (in32 (by omega) (by omega))]
  refine ⟨vi, fun hle => n57 _ _ _ _ hR0 hSt hG0 (fun hc => ⟨hc, fun h9 => ?_⟩), fun hgt => b44 _ _ _ _ _ ?_⟩
  · rw [(hG0.same hc i hi).1]
    unfold dur
    omega
  · simp only [zwp, oJump, oPush, oILoad, oALoad, oLLoad, oDLoad, oIStore, oAStore, oLStore, oDStore, oIinc, o_iadd, o_isub, o_imul, o_iand, o_ior, o_ixor, o_ishl, o_ishr, o_iushr, o_idiv, o_ladd, o_lsub, o_lmul, o_ldiv, o_lrem, o_ddiv, o_i2l, o_l2i, o_i2d, o_i2b, o_lcmp, o_dcmp, o_dup, o_dup2, o_pop, o_ic_eq, o_ic_ne, o_ic_lt, o_ic_ge, o_ic_gt, o_ic_le, o_if_eq, o_if_ne, o_if_lt, o_if_ge, o_if_gt, o_if_le, o_goto, oSwitch, zsw, oGetf, oPutI, oPutZ, oPutJ, oPutA, oIald, oLald, oDald, oBald, oZald, oIast, oLast, oDast, oBast, oZast, oAald, oAast, o_mmax, o_mmin, oCall, oCallM, oCallMV, oIret, oZret, oLret, oDret, oVret, oThrow, zMO, zThru, zpop, zShort, zRecv, zg, zok1, List.set_cons_zero, List.set_cons_succ, List.getElem?_cons_zero, List.getElem?_cons_succ, List.length_cons, List.length_nil, List.length_set, Option.toList_some, Option.toList_none, List.cons_append, List.nil_append, Value.category, true_and, and_true, Nat.zero_add, Nat.add_zero, Nat.le_refl, Nat.reduceAdd, Nat.reduceLT, zMo]
    rw [ci]
    refine ⟨vi, Or.inr trivial, n57 _ _ true _ (hR0.putF i (mnF F0 T (tn S) + (sSum (tP S) T (tn S) : Nat))) (fun t ht => ?_) (hG0.setF hBl hi (told4a hG0.1 hi hone (fun j hj => hA j (nd_zero.mp hs j hj)) (fun u hu => ?_)) (by omega)) (fun hc => (by cases hc))⟩
    · by_cases e : t = i
      · subst e
        rw [setI_at]
        exact ⟨by omega, (hSt t ht).2.1, (hSt t ht).2.2⟩
      · rw [setI_ne e]; exact hSt t ht
    · have hu1 := mnF_le (F := F0) (bit_lt hT hu) hu
      have hu2 := (hG0.2.1 u (bit_lt hT hu)).1
      unfold dur
      omega
end MO5
