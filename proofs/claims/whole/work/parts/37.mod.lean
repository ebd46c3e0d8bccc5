-- pics: zMo
/-! THE REFERENCE: the plan of a row -/
section MO17
variable {l : Launch} {th mc n sv ty ch ixa wr om : Int32} {db : Int64} {fm fr fd fp fg fs ftx fF fL fA sF sL sW fO rw br st bs du fo : Nat → Int32}
/-- the start of t behind the first j of a row that starts at σ -/
def stE (S : TS) (σ ρ : Nat → Nat) (t : Nat) : Nat → Nat
  | 0 => tR S t
  | j + 1 => if tM S (ρ j) = tM S t ∨ (tG S (ρ j)).testBit t = true then max (stE S σ ρ t j) (σ (ρ j) + tP S (ρ j)) else stE S σ ρ t j
/-- the starts of the first k of a row -/
def stA (S : TS) (ρ : Nat → Nat) : Nat → Nat → Nat
  | 0 => fun _ => 0
  | k + 1 => va_up (stA S ρ k) (ρ k) (stE S (stA S ρ k) ρ (ρ k) k)
def plB (S : TS) (ρ : Nat → Nat) : Nat → Bool
  | 0 => true
  | k + 1 => plB S ρ k && decide (stE S (stA S ρ k) ρ (ρ k) k + tP S (ρ k) ≤ tD S (ρ k))
def msA (S : TS) (ρ : Nat → Nat) : Nat → Nat
  | 0 => 0
  | k + 1 => max (msA S ρ k) (stE S (stA S ρ k) ρ (ρ k) k + tP S (ρ k))
def planR (S : TS) (ρ : Nat → Nat) : Int := if plB S ρ (tn S) then (msA S ρ (tn S) : Nat) else -1
theorem stE_le {S : TS} {σ ρ : Nat → Nat} {t c : Nat} (h0 : tR S t ≤ c) : ∀ j, (∀ i, i < j → σ (ρ i) + tP S (ρ i) ≤ c) → stE S σ ρ t j ≤ c
  | 0, _ => h0
  | j + 1, h => by
    have ih := stE_le (σ := σ) (ρ := ρ) h0 j (fun i hi => h i (by omega))
    have := h j (by omega)
    rw [stE]; split <;> omega
theorem stA_le {S : TS} {mcN : Nat} (hok : TSok S mcN) {ρ : Nat → Nat} : ∀ k, (∀ j, j < k → ρ j < tn S) → ∀ t, stA S ρ k t ≤ 200 + 50 * k
  | 0, _, t => by simp [stA]
  | k + 1, h, t => by
    have ih := stA_le hok k (fun j hj => h j (by omega))
    have hk := hok.2.2.2 _ (h k (by omega))
    rw [stA]
    by_cases e : t = ρ k
    · subst e
      rw [vu_at]
      refine stE_le (by omega) k (fun i hi => ?_)
      have := ih (ρ i)
      have := hok.2.2.2 _ (h i (by omega))
      omega
    · rw [vu_ne e]
      have := ih t
      omega
set_option maxRecDepth 100000 in
theorem m_keepRow (hfl : l.stackTraces = false) {S : TS} (hn : tn S ≤ 8) : Can l yX8_keepRow wsX8_keepRow 0 0 0 [.ref 0] (zMo th mc (nI (tn S)) sv ty ch ixa wr om db fm fr fd fp fg fs ftx fF fL fA sF sL sW fO rw br st bs du fo) (fun o w' => ∃ br' bs', o = .inl none ∧ w' = (zMo th mc (nI (tn S)) sv ty ch ixa wr om db fm fr fd fp fg fs ftx fF fL fA sF sL sW fO rw br' st bs' du fo) ∧ ∀ j, j < tn S → br' j = rw j ∧ bs' j = st j) := by
  refine zm_X8_keepRow hfl ?_
  intro K wk b0 b2 b10 b40
  have loop : ∀ j, j ≤ tn S → ∀ br' bs' : Nat → Int32, (∀ i, i < j → br' i = rw i ∧ bs' i = st i) → K 2 [some (.ref 0), some (.int (nI j))] [] (zMo th mc (nI (tn S)) sv ty ch ixa wr om db fm fr fd fp fg fs ftx fF fL fA sF sL sW fO rw br' st bs' du fo) 0 0 := by
    refine zdown _ _ (fun br' bs' h => b2 _ _ _ _ _ ?_) (fun j hj ih br' bs' h => b2 _ _ _ _ _ ?_)
    · simp only [zwp, oJump, oPush, oILoad, oALoad, oLLoad, oDLoad, oIStore, oAStore, oLStore, oDStore, oIinc, o_iadd, o_isub, o_imul, o_iand, o_ior, o_ixor, o_ishl, o_ishr, o_iushr, o_idiv, o_ladd, o_lsub, o_lmul, o_ldiv, o_lrem, o_ddiv, o_i2l, o_l2i, o_i2d, o_i2b, o_lcmp, o_dcmp, o_dup, o_dup2, o_pop, o_ic_eq, o_ic_ne, o_ic_lt, o_ic_ge, o_ic_gt, o_ic_le, o_if_eq, o_if_ne, o_if_lt, o_if_ge, o_if_gt, o_if_le, o_goto, oSwitch, zsw, oGetf, oPutI, oPutZ, oPutJ, oPutA, oIald, oLald, oDald, oBald, oZald, oIast, oLast, oDast, oBast, oZast, oAald, oAast, o_mmax, o_mmin, oCall, oCallM, oCallMV, oIret, oZret, oLret, oDret, oVret, oThrow, zMO, zThru, zpop, zShort, zRecv, zg, zok1, List.set_cons_zero, List.set_cons_succ, List.getElem?_cons_zero, List.getElem?_cons_succ, List.length_cons, List.length_nil, List.length_set, Option.toList_some, Option.toList_none, List.cons_append, List.nil_append, Value.category, true_and, and_true, Nat.zero_add, Nat.add_zero, Nat.le_refl, Nat.reduceAdd, Nat.reduceLT, zMo]
      refine ⟨fun _ => b40 _ _ _ _ _ ?_, fun h => absurd (Int32.le_refl _) h⟩
      simp only [zwp, oJump, oPush, oILoad, oALoad, oLLoad, oDLoad, oIStore, oAStore, oLStore, oDStore, oIinc, o_iadd, o_isub, o_imul, o_iand, o_ior, o_ixor, o_ishl, o_ishr, o_iushr, o_idiv, o_ladd, o_lsub, o_lmul, o_ldiv, o_lrem, o_ddiv, o_i2l, o_l2i, o_i2d, o_i2b, o_lcmp, o_dcmp, o_dup, o_dup2, o_pop, o_ic_eq, o_ic_ne, o_ic_lt, o_ic_ge, o_ic_gt, o_ic_le, o_if_eq, o_if_ne, o_if_lt, o_if_ge, o_if_gt, o_if_le, o_goto, oSwitch, zsw, oGetf, oPutI, oPutZ, oPutJ, oPutA, oIald, oLald, oDald, oBald, oZald, oIast, oLast, oDast, oBast, oZast, oAald, oAast, o_mmax, o_mmin, oCall, oCallM, oCallMV, oIret, oZret, oLret, oDret, oVret, oThrow, zMO, zThru, zpop, zShort, zRecv, zg, zok1, List.set_cons_zero, List.set_cons_succ, List.getElem?_cons_zero, List.getElem?_cons_succ, List.length_cons, List.length_nil, List.length_set, Option.toList_some, Option.toList_none, List.cons_append, List.nil_append, Value.category, true_and, and_true, Nat.zero_add, Nat.add_zero, Nat.le_refl, Nat.reduceAdd, Nat.reduceLT, zMo]
      exact ⟨br', bs', rfl, h⟩
    · simp only [zwp, oJump, oPush, oILoad, oALoad, oLLoad, oDLoad, oIStore, oAStore, oLStore, oDStore, oIinc, o_iadd, o_isub, o_imul, o_iand, o_ior, o_ixor, o_ishl, o_ishr, o_iushr, o_idiv, o_ladd, o_lsub, o_lmul, o_ldiv, o_lrem, o_ddiv, o_i2l, o_l2i, o_i2d, o_i2b, o_lcmp, o_dcmp, o_dup, o_dup2, o_pop, o_ic_eq, o_ic_ne, o_ic_lt, o_ic_ge, o_ic_gt, o_ic_le, o_if_eq, o_if_ne, o_if_lt, o_if_ge, o_if_gt, o_if_le, o_goto, oSwitch, zsw, oGetf, oPutI, oPutZ, oPutJ, oPutA, oIald, oLald, oDald, oBald, oZald, oIast, oLast, oDast, oBast, oZast, oAald, oAast, o_mmax, o_mmin, oCall, oCallM, oCallMV, oIret, oZret, oLret, oDret, oVret, oThrow, zMO, zThru, zpop, zShort, zRecv, zg, zok1, List.set_cons_zero, List.set_cons_succ, List.getElem?_cons_zero, List.getElem?_cons_succ, List.length_cons, List.length_nil, List.length_set, Option.toList_some, Option.toList_none, List.cons_append, List.nil_append, Value.category, true_and, and_true, Nat.zero_add, Nat.add_zero, Nat.le_refl, Nat.reduceAdd, Nat.reduceLT, zMo]
      refine ⟨fun h => absurd ((nI_leI (by omega) (by omega)).mp h) (by omega), fun _ => b10 _ _ _ _ _ ?_⟩
      have vj := vin (n := j) (N := 8) (by omega) (by decide)
      simp only [zwp, oJump, oPush, oILoad, oALoad, oLLoad, oDLoad, oIStore, oAStore, oLStore, oDStore, oIinc, o_iadd, o_isub, o_imul, o_iand, o_ior, o_ixor, o_ishl, o_ishr, o_iushr, o_idiv, o_ladd, o_lsub, o_lmul, o_ldiv, o_lrem, o_ddiv, o_i2l, o_l2i, o_i2d, o_i2b, o_lcmp, o_dcmp, o_dup, o_dup2, o_pop, o_ic_eq, o_ic_ne, o_ic_lt, o_ic_ge, o_ic_gt, o_ic_le, o_if_eq, o_if_ne, o_if_lt, o_if_ge, o_if_gt, o_if_le, o_goto, oSwitch, zsw, oGetf, oPutI, oPutZ, oPutJ, oPutA, oIald, oLald, oDald, oBald, oZald, oIast, oLast, oDast, oBast, oZast, oAald, oAast, o_mmax, o_mmin, oCall, oCallM, oCallMV, oIret, oZret, oLret, oDret, oVret, oThrow, zMO, zThru, zpop, zShort, zRecv, zg, zok1, List.set_cons_zero, List.set_cons_succ, List.getElem?_cons_zero, List.getElem?_cons_succ, List.length_cons, List.length_nil, List.length_set, Option.toList_some, Option.toList_none, List.cons_append, List.nil_append, Value.category, true_and, and_true, Nat.zero_add, Nat.add_zero, Nat.le_refl, Nat.reduceAdd, Nat.reduceLT, zMo]
      rw [cl (by omega), nI_1]
      refine ⟨vj, vj, vj, vj, ih _ _ (fun i hi => ?_)⟩
      by_cases e : i = j
      · subst e; rw [upd_at, upd_at]; exact ⟨rfl, rfl⟩
      · rw [upd_ne e, upd_ne e]; exact h i (by omega)
  refine b0 _ _ _ _ _ ?_
  simp only [zwp, oJump, oPush, oILoad, oALoad, oLLoad, oDLoad, oIStore, oAStore, oLStore, oDStore, oIinc, o_iadd, o_isub, o_imul, o_iand, o_ior, o_ixor, o_ishl, o_ishr, o_iushr, o_idiv, o_ladd, o_lsub, o_lmul, o_ldiv, o_lrem, o_ddiv, o_i2l, o_l2i, o_i2d, o_i2b, o_lcmp, o_dcmp, o_dup, o_dup2, o_pop, o_ic_eq, o_ic_ne, o_ic_lt, o_ic_ge, o_ic_gt, o_ic_le, o_if_eq, o_if_ne, o_if_lt, o_if_ge, o_if_gt, o_if_le, o_goto, oSwitch, zsw, oGetf, oPutI, oPutZ, oPutJ, oPutA, oIald, oLald, oDald, oBald, oZald, oIast, oLast, oDast, oBast, oZast, oAald, oAast, o_mmax, o_mmin, oCall, oCallM, oCallMV, oIret, oZret, oLret, oDret, oVret, oThrow, zMO, zThru, zpop, zShort, zRecv, zg, zok1, List.set_cons_zero, List.set_cons_succ, List.getElem?_cons_zero, List.getElem?_cons_succ, List.length_cons, List.length_nil, List.length_set, Option.toList_some, Option.toList_none, List.cons_append, List.nil_append, Value.category, true_and, and_true, Nat.zero_add, Nat.add_zero, Nat.le_refl, Nat.reduceAdd, Nat.reduceLT, zMo]
  exact loop 0 (by omega) br bs (fun i hi => absurd hi (Nat.not_lt_zero _))
end MO17
