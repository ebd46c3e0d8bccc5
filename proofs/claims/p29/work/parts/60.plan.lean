/-! CLASS PLAN: a plan that grows task by task -/
section PN
def zPn (fe ff : Nat → Int32) (mc n : Nat) (fm fr fd fp fa fb : Nat → Int32) : zW := [.inr (4, [.ref 3, .ref 1, .ref 2]), .inl (0, (8, .inl fe)), .inl (0, (3, .inl ff)), .inr (5, [.int (nI mc), .int (nI n), .ref 4, .ref 5, .ref 6, .ref 7, .ref 8, .ref 9]), .inl (0, (8, .inl fm)), .inl (0, (8, .inl fr)), .inl (0, (8, .inl fd)), .inl (0, (8, .inl fp)), .inl (0, (8, .inl fa)), .inl (0, (8, .inl fb))]
/-- the end of a machine's last task among the first k of a row -/
def frM (S : TS) (ρ : Nat → Nat) : Nat → Nat → Nat
  | 0, _ => 0
  | k + 1, m => if tM S (ρ k) = m then stE S (stA S ρ k) ρ (ρ k) k + tP S (ρ k) else frM S ρ k m
/-- the arrays hold the first k of a row -/
def PnR (S : TS) (ρ : Nat → Nat) (k : Nat) (fe ff : Nat → Int32) : Prop := (∀ j, j < k → fe (ρ j) = nI (stA S ρ k (ρ j) + tP S (ρ j))) ∧ ∀ m, m < 3 → ff m = nI (frM S ρ k m)
theorem stE_le_iff {S : TS} {σ ρ : Nat → Nat} {t c : Nat} : ∀ k, stE S σ ρ t k ≤ c ↔ tR S t ≤ c ∧ ∀ j, j < k → (tM S (ρ j) = tM S t ∨ (tG S (ρ j)).testBit t = true) → σ (ρ j) + tP S (ρ j) ≤ c
  | 0 => by rw [stE]; exact ⟨fun h => ⟨h, fun j hj => absurd hj (Nat.not_lt_zero _)⟩, fun h => h.1⟩
  | k + 1 => by
    have ih := stE_le_iff (S := S) (σ := σ) (ρ := ρ) (t := t) (c := c) k
    rw [stE]
    constructor
    · intro h
      by_cases e : tM S (ρ k) = tM S t ∨ (tG S (ρ k)).testBit t = true
      · rw [if_pos e] at h
        obtain ⟨h1, h2⟩ := ih.mp (by omega)
        refine ⟨h1, fun j hj hc => ?_⟩
        by_cases e2 : j = k
        · subst e2; omega
        · exact h2 j (by omega) hc
      · rw [if_neg e] at h
        obtain ⟨h1, h2⟩ := ih.mp h
        refine ⟨h1, fun j hj hc => ?_⟩
        by_cases e2 : j = k
        · subst e2; exact absurd hc e
        · exact h2 j (by omega) hc
    · rintro ⟨h1, h2⟩
      have h3 := ih.mpr ⟨h1, fun j hj hc => h2 j (by omega) hc⟩
      split
      · next e => have := h2 k (by omega) e; omega
      · exact h3
theorem stA_old {S : TS} {ρ : Nat → Nat} {k j : Nat} (h : ρ j ≠ ρ k) : stA S ρ (k + 1) (ρ j) = stA S ρ k (ρ j) := by rw [stA]; exact vu_ne h
theorem stA_new {S : TS} {ρ : Nat → Nat} {k : Nat} : stA S ρ (k + 1) (ρ k) = stE S (stA S ρ k) ρ (ρ k) k := by rw [stA]; exact vu_at
theorem frM_le_iff {S : TS} {ρ : Nat → Nat} {m c : Nat} : ∀ k, ConsK S ρ k → (frM S ρ k m ≤ c ↔ ∀ j, j < k → tM S (ρ j) = m → stA S ρ k (ρ j) + tP S (ρ j) ≤ c)
  | 0, _ => by rw [frM]; exact ⟨fun _ j hj => absurd hj (Nat.not_lt_zero _), fun _ => Nat.zero_le _⟩
  | k + 1, hc => by
    have hk : ConsK S ρ k := fun j hj => hc j (by omega)
    have ih := fun c => frM_le_iff (m := m) (c := c) k hk
    have old : ∀ j, j < k → stA S ρ (k + 1) (ρ j) = stA S ρ k (ρ j) := fun j hj => stA_old (ConsK_inj hc hj (by omega))
    rw [frM]
    by_cases e : tM S (ρ k) = m
    · rw [if_pos e]
      constructor
      · intro h j hj hm
        by_cases e2 : j = k
        · subst e2; rw [stA_new]; exact h
        · rw [old j (by omega)]
          have := ((stE_le_iff k).mp (Nat.le_refl (stE S (stA S ρ k) ρ (ρ k) k))).2 j (by omega) (Or.inl (by rw [hm, e]))
          omega
      · intro h
        have := h k (by omega) e
        rw [stA_new] at this
        exact this
    · rw [if_neg e, ih c]
      constructor
      · intro h j hj hm
        by_cases e2 : j = k
        · subst e2; exact absurd hm e
        · rw [old j (by omega)]; exact h j (by omega) hm
      · intro h j hj hm
        rw [← old j hj]
        exact h j (by omega) hm
theorem msA_le_iff {S : TS} {ρ : Nat → Nat} {c : Nat} : ∀ k, ConsK S ρ k → (msA S ρ k ≤ c ↔ ∀ j, j < k → stA S ρ k (ρ j) + tP S (ρ j) ≤ c)
  | 0, _ => by rw [msA]; exact ⟨fun _ j hj => absurd hj (Nat.not_lt_zero _), fun _ => Nat.zero_le _⟩
  | k + 1, hc => by
    have ih := msA_le_iff (c := c) k (fun j hj => hc j (by omega))
    have old : ∀ j, j < k → stA S ρ (k + 1) (ρ j) = stA S ρ k (ρ j) := fun j hj => stA_old (ConsK_inj hc hj (by omega))
    rw [msA]
    constructor
    · intro h j hj
      by_cases e2 : j = k
      · subst e2; rw [stA_new]; omega
      · rw [old j (by omega)]
        exact ih.mp (by omega) j (by omega)
    · intro h
      have h1 := h k (by omega)
      rw [stA_new] at h1
      have h2 := ih.mpr (fun j hj => by rw [← old j hj]; exact h j (by omega))
      omega
theorem eq_of_le_iff {a b : Nat} (h : ∀ c, a ≤ c ↔ b ≤ c) : a = b := Nat.le_antisymm ((h b).mpr (Nat.le_refl _)) ((h a).mp (Nat.le_refl _))
theorem ends_le {S : TS} {mc : Nat} (hok : TSok S mc) {ρ : Nat → Nat} {k : Nat} (hc : ConsK S ρ k) (hk : k ≤ 8) : ∀ j, j < k → stA S ρ k (ρ j) + tP S (ρ j) ≤ 650 := fun j hj => by
  have h1 := stA_le hok k (fun j hj => (hc j hj).1) (ρ j)
  have h2 := hok.2.2.2 _ (hc j hj).1
  omega
theorem frM_le {S : TS} {mc : Nat} (hok : TSok S mc) {ρ : Nat → Nat} {k m : Nat} (hc : ConsK S ρ k) (hk : k ≤ 8) : frM S ρ k m ≤ 650 := (frM_le_iff k hc).mpr (fun j hj _ => ends_le hok hc hk j hj)
theorem stE_le9 {S : TS} {mc : Nat} (hok : TSok S mc) {ρ : Nat → Nat} {k t : Nat} (hc : ConsK S ρ k) (hk : k ≤ 8) (ht : t < tn S) : stE S (stA S ρ k) ρ t k ≤ 650 := (stE_le_iff k).mpr ⟨by have := hok.2.2.2 t ht; omega, fun j hj _ => ends_le hok hc hk j hj⟩
theorem PnR_0 {S : TS} {ρ : Nat → Nat} {fe ff : Nat → Int32} (h : ∀ m, m < 3 → ff m = 0) : PnR S ρ 0 fe ff := ⟨fun j hj => absurd hj (Nat.not_lt_zero _), fun m hm => by rw [h m hm]; rfl⟩
theorem PnR_put {S : TS} {ρ : Nat → Nat} {k : Nat} {fe ff : Nat → Int32} (hc : ConsK S ρ (k + 1)) (h : PnR S ρ k fe ff) : PnR S ρ (k + 1) (upd fe (ρ k) (nI (stE S (stA S ρ k) ρ (ρ k) k + tP S (ρ k)))) (upd ff (tM S (ρ k)) (nI (stE S (stA S ρ k) ρ (ρ k) k + tP S (ρ k)))) := by
  refine ⟨fun j hj => ?_, fun m hm => ?_⟩
  · by_cases e : j = k
    · subst e; rw [upd_at, stA_new]
    · have hne := ConsK_inj hc (show j < k by omega) (by omega)
      rw [upd_ne hne, stA_old hne, h.1 j (by omega)]
  · rw [frM]
    by_cases e : tM S (ρ k) = m
    · subst e; rw [upd_at, if_pos rfl]
    · rw [if_neg e, upd_ne (fun q => e q.symm), h.2 m hm]
theorem PnR_congr {S : TS} {ρ ρ' : Nat → Nat} {k : Nat} {fe ff : Nat → Int32} (he : ∀ j, j < k → ρ j = ρ' j) (h : PnR S ρ k fe ff) : PnR S ρ' k fe ff := by
  have hf : ∀ i, i ≤ k → ∀ m, frM S ρ i m = frM S ρ' i m := by
    intro i
    induction i with
    | zero => intro _ m; rfl
    | succ i ih =>
      intro hi m
      rw [frM, frM, he i (by omega), stA_congr (k := i) (fun j hj => he j (by omega)), stE_congr (k := i) (fun j hj => he j (by omega)), ih (by omega)]
  refine ⟨fun j hj => ?_, fun m hm => by rw [h.2 m hm, hf k (Nat.le_refl _)]⟩
  rw [← stA_congr (k := k) he, ← he j hj]
  exact h.1 j hj
variable {l : Launch} {fe ff fm fr fd fp fa fb : Nat → Int32} {mc : Nat}
set_option maxRecDepth 100000 in
theorem c_restart (hfl : l.stackTraces = false) {S : TS} : Can l yX4_restart wsX4_restart 0 0 0 [.ref 0] (zPn fe ff mc (tn S) fm fr fd fp fa fb) (fun o w' => ∃ ff', o = .inl none ∧ w' = (zPn fe ff' mc (tn S) fm fr fd fp fa fb) ∧ ∀ m, m < 3 → ff' m = 0) := by
  refine zm_X4_restart hfl ?_
  intro K wk b0 b2 b7 b20
  have loop : ∀ m, m ≤ 3 → ∀ ff' : Nat → Int32, (∀ i, i < m → ff' i = 0) → K 2 [some (.ref 0), some (.int (nI m))] [] (zPn fe ff' mc (tn S) fm fr fd fp fa fb) 0 0 := by
    refine zdown _ _ (fun ff' h => b2 _ _ _ _ _ ?_) (fun m hm ih ff' h => b2 _ _ _ _ _ ?_)
    · simp only [zwp, oJump, oPush, oILoad, oALoad, oLLoad, oDLoad, oIStore, oAStore, oLStore, oDStore, oIinc, o_iadd, o_isub, o_imul, o_iand, o_ior, o_ixor, o_ishl, o_ishr, o_iushr, o_idiv, o_ladd, o_lsub, o_lmul, o_ldiv, o_lrem, o_ddiv, o_i2l, o_l2i, o_i2d, o_i2b, o_lcmp, o_dcmp, o_dup, o_dup2, o_pop, o_ic_eq, o_ic_ne, o_ic_lt, o_ic_ge, o_ic_gt, o_ic_le, o_if_eq, o_if_ne, o_if_lt, o_if_ge, o_if_gt, o_if_le, o_goto, oSwitch, zsw, oGetf, oPutI, oPutZ, oPutJ, oPutA, oIald, oLald, oDald, oBald, oZald, oIast, oLast, oDast, oBast, oZast, oAald, oAast, o_mmax, o_mmin, oCall, oCallM, oCallMV, oIret, oZret, oLret, oDret, oVret, oThrow, zMO, zThru, zpop, zShort, zRecv, zg, zok1, List.set_cons_zero, List.set_cons_succ, List.getElem?_cons_zero, List.getElem?_cons_succ, List.length_cons, List.length_nil, List.length_set, Option.toList_some, Option.toList_none, List.cons_append, List.nil_append, Value.category, true_and, and_true, Nat.zero_add, Nat.add_zero, Nat.le_refl, Nat.reduceAdd, Nat.reduceLT, zPn]
      refine ⟨fun _ => b20 _ _ _ _ _ ?_, fun h => absurd (by decide) h⟩
      simp only [zwp, oJump, oPush, oILoad, oALoad, oLLoad, oDLoad, oIStore, oAStore, oLStore, oDStore, oIinc, o_iadd, o_isub, o_imul, o_iand, o_ior, o_ixor, o_ishl, o_ishr, o_iushr, o_idiv, o_ladd, o_lsub, o_lmul, o_ldiv, o_lrem, o_ddiv, o_i2l, o_l2i, o_i2d, o_i2b, o_lcmp, o_dcmp, o_dup, o_dup2, o_pop, o_ic_eq, o_ic_ne, o_ic_lt, o_ic_ge, o_ic_gt, o_ic_le, o_if_eq, o_if_ne, o_if_lt, o_if_ge, o_if_gt, o_if_le, o_goto, oSwitch, zsw, oGetf, oPutI, oPutZ, oPutJ, oPutA, oIald, oLald, oDald, oBald, oZald, oIast, oLast, oDast, oBast, oZast, oAald, oAast, o_mmax, o_mmin, oCall, oCallM, oCallMV, oIret, oZret, oLret, oDret, oVret, oThrow, zMO, zThru, zpop, zShort, zRecv, zg, zok1, List.set_cons_zero, List.set_cons_succ, List.getElem?_cons_zero, List.getElem?_cons_succ, List.length_cons, List.length_nil, List.length_set, Option.toList_some, Option.toList_none, List.cons_append, List.nil_append, Value.category, true_and, and_true, Nat.zero_add, Nat.add_zero, Nat.le_refl, Nat.reduceAdd, Nat.reduceLT, zPn]
      exact ⟨ff', rfl, h⟩
    · simp only [zwp, oJump, oPush, oILoad, oALoad, oLLoad, oDLoad, oIStore, oAStore, oLStore, oDStore, oIinc, o_iadd, o_isub, o_imul, o_iand, o_ior, o_ixor, o_ishl, o_ishr, o_iushr, o_idiv, o_ladd, o_lsub, o_lmul, o_ldiv, o_lrem, o_ddiv, o_i2l, o_l2i, o_i2d, o_i2b, o_lcmp, o_dcmp, o_dup, o_dup2, o_pop, o_ic_eq, o_ic_ne, o_ic_lt, o_ic_ge, o_ic_gt, o_ic_le, o_if_eq, o_if_ne, o_if_lt, o_if_ge, o_if_gt, o_if_le, o_goto, oSwitch, zsw, oGetf, oPutI, oPutZ, oPutJ, oPutA, oIald, oLald, oDald, oBald, oZald, oIast, oLast, oDast, oBast, oZast, oAald, oAast, o_mmax, o_mmin, oCall, oCallM, oCallMV, oIret, oZret, oLret, oDret, oVret, oThrow, zMO, zThru, zpop, zShort, zRecv, zg, zok1, List.set_cons_zero, List.set_cons_succ, List.getElem?_cons_zero, List.getElem?_cons_succ, List.length_cons, List.length_nil, List.length_set, Option.toList_some, Option.toList_none, List.cons_append, List.nil_append, Value.category, true_and, and_true, Nat.zero_add, Nat.add_zero, Nat.le_refl, Nat.reduceAdd, Nat.reduceLT, zPn]
      refine ⟨fun h => absurd ((nI_leI (a := 3) (by omega) (by omega)).mp h) (by omega), fun _ => b7 _ _ _ _ _ ?_⟩
      simp only [zwp, oJump, oPush, oILoad, oALoad, oLLoad, oDLoad, oIStore, oAStore, oLStore, oDStore, oIinc, o_iadd, o_isub, o_imul, o_iand, o_ior, o_ixor, o_ishl, o_ishr, o_iushr, o_idiv, o_ladd, o_lsub, o_lmul, o_ldiv, o_lrem, o_ddiv, o_i2l, o_l2i, o_i2d, o_i2b, o_lcmp, o_dcmp, o_dup, o_dup2, o_pop, o_ic_eq, o_ic_ne, o_ic_lt, o_ic_ge, o_ic_gt, o_ic_le, o_if_eq, o_if_ne, o_if_lt, o_if_ge, o_if_gt, o_if_le, o_goto, oSwitch, zsw, oGetf, oPutI, oPutZ, oPutJ, oPutA, oIald, oLald, oDald, oBald, oZald, oIast, oLast, oDast, oBast, oZast, oAald, oAast, o_mmax, o_mmin, oCall, oCallM, oCallMV, oIret, oZret, oLret, oDret, oVret, oThrow, zMO, zThru, zpop, zShort, zRecv, zg, zok1, List.set_cons_zero, List.set_cons_succ, List.getElem?_cons_zero, List.getElem?_cons_succ, List.length_cons, List.length_nil, List.length_set, Option.toList_some, Option.toList_none, List.cons_append, List.nil_append, Value.category, true_and, and_true, Nat.zero_add, Nat.add_zero, Nat.le_refl, Nat.reduceAdd, Nat.reduceLT, zPn]
      rw [cl (by omega), nI_1]
      refine ⟨vin (by omega) (by decide), ih _ (fun i hi => ?_)⟩
      by_cases e : i = m
      · subst e; rw [upd_at]
      · rw [upd_ne e, h i (by omega)]
  refine b0 _ _ _ _ _ ?_
  simp only [zwp, oJump, oPush, oILoad, oALoad, oLLoad, oDLoad, oIStore, oAStore, oLStore, oDStore, oIinc, o_iadd, o_isub, o_imul, o_iand, o_ior, o_ixor, o_ishl, o_ishr, o_iushr, o_idiv, o_ladd, o_lsub, o_lmul, o_ldiv, o_lrem, o_ddiv, o_i2l, o_l2i, o_i2d, o_i2b, o_lcmp, o_dcmp, o_dup, o_dup2, o_pop, o_ic_eq, o_ic_ne, o_ic_lt, o_ic_ge, o_ic_gt, o_ic_le, o_if_eq, o_if_ne, o_if_lt, o_if_ge, o_if_gt, o_if_le, o_goto, oSwitch, zsw, oGetf, oPutI, oPutZ, oPutJ, oPutA, oIald, oLald, oDald, oBald, oZald, oIast, oLast, oDast, oBast, oZast, oAald, oAast, o_mmax, o_mmin, oCall, oCallM, oCallMV, oIret, oZret, oLret, oDret, oVret, oThrow, zMO, zThru, zpop, zShort, zRecv, zg, zok1, List.set_cons_zero, List.set_cons_succ, List.getElem?_cons_zero, List.getElem?_cons_succ, List.length_cons, List.length_nil, List.length_set, Option.toList_some, Option.toList_none, List.cons_append, List.nil_append, Value.category, true_and, and_true, Nat.zero_add, Nat.add_zero, Nat.le_refl, Nat.reduceAdd, Nat.reduceLT, zPn]
  exact loop 0 (by omega) _ (fun i hi => absurd hi (Nat.not_lt_zero _))
set_option maxRecDepth 100000 in
theorem c_place (hfl : l.stackTraces = false) {S : TS} (hok : TSok S mc) (hP : PlR S fm fr fd fp fa fb) {t : Nat} (ht : t < tn S) (e : Int32) : Can l yX4_place wsX4_place 0 0 0 [.ref 0, .int (nI t), .int e] (zPn fe ff mc (tn S) fm fr fd fp fa fb) (fun o w' => o = .inl none ∧ w' = (zPn (upd fe t e) (upd ff (tM S t) e) mc (tn S) fm fr fd fp fa fb)) := by
  have hn := hok.1
  have hmc := hok.2.2.1
  have hm := (hok.2.2.2 t ht).1
  have vt := vin (n := t) (N := 8) (by omega) (by decide)
  have vm := vin (n := tM S t) (N := 3) (by omega) (by decide)
  refine zm_X4_place hfl ?_
  intro K wk b0
  refine b0 _ _ _ _ _ ?_
  simp only [zwp, oJump, oPush, oILoad, oALoad, oLLoad, oDLoad, oIStore, oAStore, oLStore, oDStore, oIinc, o_iadd, o_isub, o_imul, o_iand, o_ior, o_ixor, o_ishl, o_ishr, o_iushr, o_idiv, o_ladd, o_lsub, o_lmul, o_ldiv, o_lrem, o_ddiv, o_i2l, o_l2i, o_i2d, o_i2b, o_lcmp, o_dcmp, o_dup, o_dup2, o_pop, o_ic_eq, o_ic_ne, o_ic_lt, o_ic_ge, o_ic_gt, o_ic_le, o_if_eq, o_if_ne, o_if_lt, o_if_ge, o_if_gt, o_if_le, o_goto, oSwitch, zsw, oGetf, oPutI, oPutZ, oPutJ, oPutA, oIald, oLald, oDald, oBald, oZald, oIast, oLast, oDast, oBast, oZast, oAald, oAast, o_mmax, o_mmin, oCall, oCallM, oCallMV, oIret, oZret, oLret, oDret, oVret, oThrow, zMO, zThru, zpop, zShort, zRecv, zg, zok1, List.set_cons_zero, List.set_cons_succ, List.getElem?_cons_zero, List.getElem?_cons_succ, List.length_cons, List.length_nil, List.length_set, Option.toList_some, Option.toList_none, List.cons_append, List.nil_append, Value.category, true_and, and_true, Nat.zero_add, Nat.add_zero, Nat.le_refl, Nat.reduceAdd, Nat.reduceLT, zPn]
  rw [cl (by omega), (hP t ht).1, cl (by omega)]
  exact ⟨vt, vt, vm, rfl⟩
set_option maxRecDepth 100000 in
theorem c_latestEnd (hfl : l.stackTraces = false) {S : TS} (hok : TSok S mc) {ρ : Nat → Nat} {k : Nat} (hc : ConsK S ρ k) (hk : k ≤ 8) (hR : PnR S ρ k fe ff) : Can l yX4_latestEnd wsX4_latestEnd 1 0 0 [.ref 0] (zPn fe ff mc (tn S) fm fr fd fp fa fb) (fun o w' => o = .inl (some (.int (nI (msA S ρ k)))) ∧ w' = (zPn fe ff mc (tn S) fm fr fd fp fa fb)) := by
  have hmc := hok.2.2.1
  have hf := fun m => frM_le hok (m := m) hc hk
  have e : max (max (max 0 (frM S ρ k 0)) (frM S ρ k 1)) (frM S ρ k 2) = msA S ρ k := eq_of_le_iff (fun c => by
    rw [msA_le_iff k hc]
    constructor
    · intro h j hj
      have hm := (hok.2.2.2 _ (hc j hj).1).1
      rcases (show tM S (ρ j) = 0 ∨ tM S (ρ j) = 1 ∨ tM S (ρ j) = 2 by omega) with q | q | q
      · exact (frM_le_iff (m := 0) k hc).mp (by omega) j hj q
      · exact (frM_le_iff (m := 1) k hc).mp (by omega) j hj q
      · exact (frM_le_iff (m := 2) k hc).mp (by omega) j hj q
    · intro h
      have h0 := (frM_le_iff (m := 0) (c := c) k hc).mpr (fun j hj _ => h j hj)
      have h1 := (frM_le_iff (m := 1) (c := c) k hc).mpr (fun j hj _ => h j hj)
      have h2 := (frM_le_iff (m := 2) (c := c) k hc).mpr (fun j hj _ => h j hj)
      omega)
  have f0 := hf 0
  have f1 := hf 1
  have f2 := hf 2
  refine zm_X4_latestEnd hfl (Nat.le_refl _) ?_
  intro K wk b0 b4 b9 b26
  have step : ∀ (m x : Nat), m < 3 → x ≤ 650 → K 4 [some (.ref 0), some (.int (nI (max x (frM S ρ k m)))), some (.int (nI (m + 1)))] [] (zPn fe ff mc (tn S) fm fr fd fp fa fb) 0 0 → K 4 [some (.ref 0), some (.int (nI x)), some (.int (nI m))] [] (zPn fe ff mc (tn S) fm fr fd fp fa fb) 0 0 := fun m x hm hx h => b4 _ _ _ _ _ (by
    have := hf m
    simp only [zwp, oJump, oPush, oILoad, oALoad, oLLoad, oDLoad, oIStore, oAStore, oLStore, oDStore, oIinc, o_iadd, o_isub, o_imul, o_iand, o_ior, o_ixor, o_ishl, o_ishr, o_iushr, o_idiv, o_ladd, o_lsub, o_lmul, o_ldiv, o_lrem, o_ddiv, o_i2l, o_l2i, o_i2d, o_i2b, o_lcmp, o_dcmp, o_dup, o_dup2, o_pop, o_ic_eq, o_ic_ne, o_ic_lt, o_ic_ge, o_ic_gt, o_ic_le, o_if_eq, o_if_ne, o_if_lt, o_if_ge, o_if_gt, o_if_le, o_goto, oSwitch, zsw, oGetf, oPutI, oPutZ, oPutJ, oPutA, oIald, oLald, oDald, oBald, oZald, oIast, oLast, oDast, oBast, oZast, oAald, oAast, o_mmax, o_mmin, oCall, oCallM, oCallMV, oIret, oZret, oLret, oDret, oVret, oThrow, zMO, zThru, zpop, zShort, zRecv, zg, zok1, List.set_cons_zero, List.set_cons_succ, List.getElem?_cons_zero, List.getElem?_cons_succ, List.length_cons, List.length_nil, List.length_set, Option.toList_some, Option.toList_none, List.cons_append, List.nil_append, Value.category, true_and, and_true, Nat.zero_add, Nat.add_zero, Nat.le_refl, Nat.reduceAdd, Nat.reduceLT, zPn]
    refine ⟨fun h => absurd ((nI_leI (a := 3) (by omega) (by omega)).mp h) (by omega), fun _ => b9 _ _ _ _ _ ?_⟩
    simp only [zwp, oJump, oPush, oILoad, oALoad, oLLoad, oDLoad, oIStore, oAStore, oLStore, oDStore, oIinc, o_iadd, o_isub, o_imul, o_iand, o_ior, o_ixor, o_ishl, o_ishr, o_iushr, o_idiv, o_ladd, o_lsub, o_lmul, o_ldiv, o_lrem, o_ddiv, o_i2l, o_l2i, o_i2d, o_i2b, o_lcmp, o_dcmp, o_dup, o_dup2, o_pop, o_ic_eq, o_ic_ne, o_ic_lt, o_ic_ge, o_ic_gt, o_ic_le, o_if_eq, o_if_ne, o_if_lt, o_if_ge, o_if_gt, o_if_le, o_goto, oSwitch, zsw, oGetf, oPutI, oPutZ, oPutJ, oPutA, oIald, oLald, oDald, oBald, oZald, oIast, oLast, oDast, oBast, oZast, oAald, oAast, o_mmax, o_mmin, oCall, oCallM, oCallMV, oIret, oZret, oLret, oDret, oVret, oThrow, zMO, zThru, zpop, zShort, zRecv, zg, zok1, List.set_cons_zero, List.set_cons_succ, List.getElem?_cons_zero, List.getElem?_cons_succ, List.length_cons, List.length_nil, List.length_set, Option.toList_some, Option.toList_none, List.cons_append, List.nil_append, Value.category, true_and, and_true, Nat.zero_add, Nat.add_zero, Nat.le_refl, Nat.reduceAdd, Nat.reduceLT, zPn]
    rw [cl (by omega), hR.2 m hm, zmax_nI (by omega) (by omega), nI_1]
    exact ⟨vin hm (by decide), h⟩)
  refine b0 _ _ _ _ _ ?_
  simp only [zwp, oJump, oPush, oILoad, oALoad, oLLoad, oDLoad, oIStore, oAStore, oLStore, oDStore, oIinc, o_iadd, o_isub, o_imul, o_iand, o_ior, o_ixor, o_ishl, o_ishr, o_iushr, o_idiv, o_ladd, o_lsub, o_lmul, o_ldiv, o_lrem, o_ddiv, o_i2l, o_l2i, o_i2d, o_i2b, o_lcmp, o_dcmp, o_dup, o_dup2, o_pop, o_ic_eq, o_ic_ne, o_ic_lt, o_ic_ge, o_ic_gt, o_ic_le, o_if_eq, o_if_ne, o_if_lt, o_if_ge, o_if_gt, o_if_le, o_goto, oSwitch, zsw, oGetf, oPutI, oPutZ, oPutJ, oPutA, oIald, oLald, oDald, oBald, oZald, oIast, oLast, oDast, oBast, oZast, oAald, oAast, o_mmax, o_mmin, oCall, oCallM, oCallMV, oIret, oZret, oLret, oDret, oVret, oThrow, zMO, zThru, zpop, zShort, zRecv, zg, zok1, List.set_cons_zero, List.set_cons_succ, List.getElem?_cons_zero, List.getElem?_cons_succ, List.length_cons, List.length_nil, List.length_set, Option.toList_some, Option.toList_none, List.cons_append, List.nil_append, Value.category, true_and, and_true, Nat.zero_add, Nat.add_zero, Nat.le_refl, Nat.reduceAdd, Nat.reduceLT, zPn]
  refine step 0 0 (by omega) (by omega) (step 1 _ (by omega) (by omega) (step 2 _ (by omega) (by omega) (b4 _ _ _ _ _ ?_)))
  simp only [zwp, oJump, oPush, oILoad, oALoad, oLLoad, oDLoad, oIStore, oAStore, oLStore, oDStore, oIinc, o_iadd, o_isub, o_imul, o_iand, o_ior, o_ixor, o_ishl, o_ishr, o_iushr, o_idiv, o_ladd, o_lsub, o_lmul, o_ldiv, o_lrem, o_ddiv, o_i2l, o_l2i, o_i2d, o_i2b, o_lcmp, o_dcmp, o_dup, o_dup2, o_pop, o_ic_eq, o_ic_ne, o_ic_lt, o_ic_ge, o_ic_gt, o_ic_le, o_if_eq, o_if_ne, o_if_lt, o_if_ge, o_if_gt, o_if_le, o_goto, oSwitch, zsw, oGetf, oPutI, oPutZ, oPutJ, oPutA, oIald, oLald, oDald, oBald, oZald, oIast, oLast, oDast, oBast, oZast, oAald, oAast, o_mmax, o_mmin, oCall, oCallM, oCallMV, oIret, oZret, oLret, oDret, oVret, oThrow, zMO, zThru, zpop, zShort, zRecv, zg, zok1, List.set_cons_zero, List.set_cons_succ, List.getElem?_cons_zero, List.getElem?_cons_succ, List.length_cons, List.length_nil, List.length_set, Option.toList_some, Option.toList_none, List.cons_append, List.nil_append, Value.category, true_and, and_true, Nat.zero_add, Nat.add_zero, Nat.le_refl, Nat.reduceAdd, Nat.reduceLT, zPn]
  refine ⟨fun _ => b26 _ _ _ _ _ ?_, fun h => absurd (by decide) h⟩
  simp only [zwp, oJump, oPush, oILoad, oALoad, oLLoad, oDLoad, oIStore, oAStore, oLStore, oDStore, oIinc, o_iadd, o_isub, o_imul, o_iand, o_ior, o_ixor, o_ishl, o_ishr, o_iushr, o_idiv, o_ladd, o_lsub, o_lmul, o_ldiv, o_lrem, o_ddiv, o_i2l, o_l2i, o_i2d, o_i2b, o_lcmp, o_dcmp, o_dup, o_dup2, o_pop, o_ic_eq, o_ic_ne, o_ic_lt, o_ic_ge, o_ic_gt, o_ic_le, o_if_eq, o_if_ne, o_if_lt, o_if_ge, o_if_gt, o_if_le, o_goto, oSwitch, zsw, oGetf, oPutI, oPutZ, oPutJ, oPutA, oIald, oLald, oDald, oBald, oZald, oIast, oLast, oDast, oBast, oZast, oAald, oAast, o_mmax, o_mmin, oCall, oCallM, oCallMV, oIret, oZret, oLret, oDret, oVret, oThrow, zMO, zThru, zpop, zShort, zRecv, zg, zok1, List.set_cons_zero, List.set_cons_succ, List.getElem?_cons_zero, List.getElem?_cons_succ, List.length_cons, List.length_nil, List.length_set, Option.toList_some, Option.toList_none, List.cons_append, List.nil_append, Value.category, true_and, and_true, Nat.zero_add, Nat.add_zero, Nat.le_refl, Nat.reduceAdd, Nat.reduceLT, zPn]
  rw [e]
/-- the latest of s and of the ends of the tasks of a set -/
def mxE (e : Nat → Nat) (R s : Nat) : Nat → Nat
  | 0 => s
  | u + 1 => if R.testBit u then max (mxE e R s u) (e u) else mxE e R s u
theorem mxE_le_iff {e : Nat → Nat} {R s c : Nat} : ∀ k, mxE e R s k ≤ c ↔ s ≤ c ∧ ∀ u, u < k → R.testBit u = true → e u ≤ c
  | 0 => by rw [mxE]; exact ⟨fun h => ⟨h, fun j hj => absurd hj (Nat.not_lt_zero _)⟩, fun h => h.1⟩
  | k + 1 => by
    have ih := mxE_le_iff (e := e) (R := R) (s := s) (c := c) k
    rw [mxE]
    constructor
    · intro h
      by_cases q : R.testBit k = true
      · rw [if_pos q] at h
        obtain ⟨h1, h2⟩ := ih.mp (by omega)
        refine ⟨h1, fun u hu hb => ?_⟩
        by_cases e2 : u = k
        · subst e2; omega
        · exact h2 u (by omega) hb
      · rw [if_neg q] at h
        obtain ⟨h1, h2⟩ := ih.mp h
        refine ⟨h1, fun u hu hb => ?_⟩
        by_cases e2 : u = k
        · subst e2; exact absurd hb q
        · exact h2 u (by omega) hb
    · rintro ⟨h1, h2⟩
      have h3 := ih.mpr ⟨h1, fun u hu hb => h2 u (by omega) hb⟩
      split
      · next q => have := h2 k (by omega) q; omega
      · exact h3
set_option maxRecDepth 100000 in
theorem c_earliestEnd (hfl : l.stackTraces = false) {S : TS} (hok : TSok S mc) (hP : PlR S fm fr fd fp fa fb) {ρ : Nat → Nat} {k t : Nat} (hc : ConsK S ρ k) (hk : k ≤ 8) (hR : PnR S ρ k fe ff) (ht : t < tn S) : Can l yX4_earliestEnd wsX4_earliestEnd 1 0 0 [.ref 0, .int (nI t), .int (nI (rs ρ k))] (zPn fe ff mc (tn S) fm fr fd fp fa fb) (fun o w' => o = .inl (some (.int (nI (stE S (stA S ρ k) ρ t k + tP S t)))) ∧ w' = (zPn fe ff mc (tn S) fm fr fd fp fa fb)) := by
  have hn := hok.1
  have hmc := hok.2.2.1
  have hkt := hok.2.2.2 t ht
  have hf := frM_le hok (m := tM S t) hc hk
  have hend := ends_le hok hc hk
  have vt := vin (n := t) (N := 8) (by omega) (by decide)
  have ct := cl (n := t) (by omega)
  have cm := cl (n := tM S t) (by omega)
  have vm := vin (n := tM S t) (N := 3) (by omega) (by decide)
  obtain ⟨p1, p2, p3, p4, p5, p6⟩ := hP t ht
  obtain ⟨e, he⟩ : ∃ e : Nat → Nat, ∀ j, j < k → fe (ρ j) = nI (e (ρ j)) ∧ e (ρ j) = stA S ρ k (ρ j) + tP S (ρ j) := ⟨fun u => stA S ρ k u + tP S u, fun j hj => ⟨hR.1 j hj, rfl⟩⟩
  obtain ⟨A, hA⟩ : ∃ A, tA S t &&& rs ρ k = A := ⟨_, rfl⟩
  have hAb : ∀ u, A.testBit u = true ↔ (u < tn S ∧ (tG S u).testBit t = true) ∧ ∃ j, j < k ∧ ρ j = u := fun u => by
    rw [← hA, Nat.testBit_and, Bool.and_eq_true, tA_bit, rs_bit]
  have hA8 : A < 256 := by
    rw [← hA]
    exact Nat.lt_of_le_of_lt Nat.and_le_left (two8 (tA_lt S t) hn)
  obtain ⟨s0, hs0⟩ : ∃ s0, max (tR S t) (frM S ρ k (tM S t)) = s0 := ⟨_, rfl⟩
  have hfin : mxE e A s0 (tn S) = stE S (stA S ρ k) ρ t k := eq_of_le_iff (fun c => by
    rw [mxE_le_iff, stE_le_iff, ← hs0]
    constructor
    · rintro ⟨h1, h2⟩
      refine ⟨by omega, fun j hj hq => ?_⟩
      rcases hq with q | q
      · exact (frM_le_iff k hc).mp (show frM S ρ k (tM S t) ≤ c by omega) j hj q
      · have := h2 (ρ j) (hc j hj).1 ((hAb _).mpr ⟨⟨(hc j hj).1, q⟩, j, hj, rfl⟩)
        rw [(he j hj).2] at this
        exact this
    · rintro ⟨h1, h2⟩
      have h3 := (frM_le_iff (m := tM S t) (c := c) k hc).mpr (fun j hj q => h2 j hj (Or.inl q))
      refine ⟨by omega, fun u hu hb => ?_⟩
      obtain ⟨⟨-, g1⟩, j, hj, rfl⟩ := (hAb u).mp hb
      rw [(he j hj).2]
      exact h2 j hj (Or.inr g1))
  have hmx : ∀ u, mxE e A s0 u ≤ 650 := fun u => (mxE_le_iff u).mpr ⟨by omega, fun v _ hb => by
    obtain ⟨-, j, hj, rfl⟩ := (hAb v).mp hb
    rw [(he j hj).2]
    exact hend j hj⟩
  refine zm_X4_earliestEnd hfl (Nat.le_refl _) ?_
  intro K wk b0 b43 b55 b65 b77 b83
  refine b0 _ _ _ _ _ ?_
  simp only [zwp, oJump, oPush, oILoad, oALoad, oLLoad, oDLoad, oIStore, oAStore, oLStore, oDStore, oIinc, o_iadd, o_isub, o_imul, o_iand, o_ior, o_ixor, o_ishl, o_ishr, o_iushr, o_idiv, o_ladd, o_lsub, o_lmul, o_ldiv, o_lrem, o_ddiv, o_i2l, o_l2i, o_i2d, o_i2b, o_lcmp, o_dcmp, o_dup, o_dup2, o_pop, o_ic_eq, o_ic_ne, o_ic_lt, o_ic_ge, o_ic_gt, o_ic_le, o_if_eq, o_if_ne, o_if_lt, o_if_ge, o_if_gt, o_if_le, o_goto, oSwitch, zsw, oGetf, oPutI, oPutZ, oPutJ, oPutA, oIald, oLald, oDald, oBald, oZald, oIast, oLast, oDast, oBast, oZast, oAald, oAast, o_mmax, o_mmin, oCall, oCallM, oCallMV, oIret, oZret, oLret, oDret, oVret, oThrow, zMO, zThru, zpop, zShort, zRecv, zg, zok1, List.set_cons_zero, List.set_cons_succ, List.getElem?_cons_zero, List.getElem?_cons_succ, List.length_cons, List.length_nil, List.length_set, Option.toList_some, Option.toList_none, List.cons_append, List.nil_append, Value.category, true_and, and_true, Nat.zero_add, Nat.add_zero, Nat.le_refl, Nat.reduceAdd, Nat.reduceLT, zPn]
  rw [ct, p1, p2, p5, cm, hR.2 _ (by omega), zmax_nI (by omega) (by omega), n_and, hA, hs0]
  refine ⟨vt, vt, vm, vt, ?_⟩
  have loop : ∀ u, u ≤ tn S → K 43 [some (.ref 0), some (.int (nI t)), some (.int (nI (rs ρ k))), some (.int (nI (mxE e A s0 u))), some (.int (nI A)), some (.int (nI u))] [] (zPn fe ff mc (tn S) fm fr fd fp fa fb) 0 0 := by
    refine zdown _ _ (b43 _ _ _ _ _ ?_) (fun u hu ih => b43 _ _ _ _ _ ?_)
    · simp only [zwp, oJump, oPush, oILoad, oALoad, oLLoad, oDLoad, oIStore, oAStore, oLStore, oDStore, oIinc, o_iadd, o_isub, o_imul, o_iand, o_ior, o_ixor, o_ishl, o_ishr, o_iushr, o_idiv, o_ladd, o_lsub, o_lmul, o_ldiv, o_lrem, o_ddiv, o_i2l, o_l2i, o_i2d, o_i2b, o_lcmp, o_dcmp, o_dup, o_dup2, o_pop, o_ic_eq, o_ic_ne, o_ic_lt, o_ic_ge, o_ic_gt, o_ic_le, o_if_eq, o_if_ne, o_if_lt, o_if_ge, o_if_gt, o_if_le, o_goto, oSwitch, zsw, oGetf, oPutI, oPutZ, oPutJ, oPutA, oIald, oLald, oDald, oBald, oZald, oIast, oLast, oDast, oBast, oZast, oAald, oAast, o_mmax, o_mmin, oCall, oCallM, oCallMV, oIret, oZret, oLret, oDret, oVret, oThrow, zMO, zThru, zpop, zShort, zRecv, zg, zok1, List.set_cons_zero, List.set_cons_succ, List.getElem?_cons_zero, List.getElem?_cons_succ, List.length_cons, List.length_nil, List.length_set, Option.toList_some, Option.toList_none, List.cons_append, List.nil_append, Value.category, true_and, and_true, Nat.zero_add, Nat.add_zero, Nat.le_refl, Nat.reduceAdd, Nat.reduceLT, zPn]
      refine ⟨fun _ => b83 _ _ _ _ _ ?_, fun h => absurd (Int32.le_refl _) h⟩
      simp only [zwp, oJump, oPush, oILoad, oALoad, oLLoad, oDLoad, oIStore, oAStore, oLStore, oDStore, oIinc, o_iadd, o_isub, o_imul, o_iand, o_ior, o_ixor, o_ishl, o_ishr, o_iushr, o_idiv, o_ladd, o_lsub, o_lmul, o_ldiv, o_lrem, o_ddiv, o_i2l, o_l2i, o_i2d, o_i2b, o_lcmp, o_dcmp, o_dup, o_dup2, o_pop, o_ic_eq, o_ic_ne, o_ic_lt, o_ic_ge, o_ic_gt, o_ic_le, o_if_eq, o_if_ne, o_if_lt, o_if_ge, o_if_gt, o_if_le, o_goto, oSwitch, zsw, oGetf, oPutI, oPutZ, oPutJ, oPutA, oIald, oLald, oDald, oBald, oZald, oIast, oLast, oDast, oBast, oZast, oAald, oAast, o_mmax, o_mmin, oCall, oCallM, oCallMV, oIret, oZret, oLret, oDret, oVret, oThrow, zMO, zThru, zpop, zShort, zRecv, zg, zok1, List.set_cons_zero, List.set_cons_succ, List.getElem?_cons_zero, List.getElem?_cons_succ, List.length_cons, List.length_nil, List.length_set, Option.toList_some, Option.toList_none, List.cons_append, List.nil_append, Value.category, true_and, and_true, Nat.zero_add, Nat.add_zero, Nat.le_refl, Nat.reduceAdd, Nat.reduceLT, zPn]
      rw [ct, p4, hfin, nI_add]
      exact ⟨vt, rfl⟩
    · simp only [zwp, oJump, oPush, oILoad, oALoad, oLLoad, oDLoad, oIStore, oAStore, oLStore, oDStore, oIinc, o_iadd, o_isub, o_imul, o_iand, o_ior, o_ixor, o_ishl, o_ishr, o_iushr, o_idiv, o_ladd, o_lsub, o_lmul, o_ldiv, o_lrem, o_ddiv, o_i2l, o_l2i, o_i2d, o_i2b, o_lcmp, o_dcmp, o_dup, o_dup2, o_pop, o_ic_eq, o_ic_ne, o_ic_lt, o_ic_ge, o_ic_gt, o_ic_le, o_if_eq, o_if_ne, o_if_lt, o_if_ge, o_if_gt, o_if_le, o_goto, oSwitch, zsw, oGetf, oPutI, oPutZ, oPutJ, oPutA, oIald, oLald, oDald, oBald, oZald, oIast, oLast, oDast, oBast, oZast, oAald, oAast, o_mmax, o_mmin, oCall, oCallM, oCallMV, oIret, oZret, oLret, oDret, oVret, oThrow, zMO, zThru, zpop, zShort, zRecv, zg, zok1, List.set_cons_zero, List.set_cons_succ, List.getElem?_cons_zero, List.getElem?_cons_succ, List.length_cons, List.length_nil, List.length_set, Option.toList_some, Option.toList_none, List.cons_append, List.nil_append, Value.category, true_and, and_true, Nat.zero_add, Nat.add_zero, Nat.le_refl, Nat.reduceAdd, Nat.reduceLT, zPn]
      refine ⟨fun h => absurd ((nI_leI (by omega) (by omega)).mp h) (by omega), fun _ => b55 _ _ _ _ _ ?_⟩
      rw [mxE] at ih
      have hm1 := hmx u
      have n77 : ∀ v : Nat, v = (if A.testBit u then max (mxE e A s0 u) (e u) else mxE e A s0 u) → K 77 [some (.ref 0), some (.int (nI t)), some (.int (nI (rs ρ k))), some (.int (nI v)), some (.int (nI A)), some (.int (nI u))] [] (zPn fe ff mc (tn S) fm fr fd fp fa fb) 0 0 := fun v hv => b77 _ _ _ _ _ (by
        simp only [zwp, oJump, oPush, oILoad, oALoad, oLLoad, oDLoad, oIStore, oAStore, oLStore, oDStore, oIinc, o_iadd, o_isub, o_imul, o_iand, o_ior, o_ixor, o_ishl, o_ishr, o_iushr, o_idiv, o_ladd, o_lsub, o_lmul, o_ldiv, o_lrem, o_ddiv, o_i2l, o_l2i, o_i2d, o_i2b, o_lcmp, o_dcmp, o_dup, o_dup2, o_pop, o_ic_eq, o_ic_ne, o_ic_lt, o_ic_ge, o_ic_gt, o_ic_le, o_if_eq, o_if_ne, o_if_lt, o_if_ge, o_if_gt, o_if_le, o_goto, oSwitch, zsw, oGetf, oPutI, oPutZ, oPutJ, oPutA, oIald, oLald, oDald, oBald, oZald, oIast, oLast, oDast, oBast, oZast, oAald, oAast, o_mmax, o_mmin, oCall, oCallM, oCallMV, oIret, oZret, oLret, oDret, oVret, oThrow, zMO, zThru, zpop, zShort, zRecv, zg, zok1, List.set_cons_zero, List.set_cons_succ, List.getElem?_cons_zero, List.getElem?_cons_succ, List.length_cons, List.length_nil, List.length_set, Option.toList_some, Option.toList_none, List.cons_append, List.nil_append, Value.category, true_and, and_true, Nat.zero_add, Nat.add_zero, Nat.le_refl, Nat.reduceAdd, Nat.reduceLT, zPn]
        rw [nI_1, hv]
        exact ih)
      simp only [zwp, oJump, oPush, oILoad, oALoad, oLLoad, oDLoad, oIStore, oAStore, oLStore, oDStore, oIinc, o_iadd, o_isub, o_imul, o_iand, o_ior, o_ixor, o_ishl, o_ishr, o_iushr, o_idiv, o_ladd, o_lsub, o_lmul, o_ldiv, o_lrem, o_ddiv, o_i2l, o_l2i, o_i2d, o_i2b, o_lcmp, o_dcmp, o_dup, o_dup2, o_pop, o_ic_eq, o_ic_ne, o_ic_lt, o_ic_ge, o_ic_gt, o_ic_le, o_if_eq, o_if_ne, o_if_lt, o_if_ge, o_if_gt, o_if_le, o_goto, oSwitch, zsw, oGetf, oPutI, oPutZ, oPutJ, oPutA, oIald, oLald, oDald, oBald, oZald, oIast, oLast, oDast, oBast, oZast, oAald, oAast, o_mmax, o_mmin, oCall, oCallM, oCallMV, oIret, oZret, oLret, oDret, oVret, oThrow, zMO, zThru, zpop, zShort, zRecv, zg, zok1, List.set_cons_zero, List.set_cons_succ, List.getElem?_cons_zero, List.getElem?_cons_succ, List.length_cons, List.length_nil, List.length_set, Option.toList_some, Option.toList_none, List.cons_append, List.nil_append, Value.category, true_and, and_true, Nat.zero_add, Nat.add_zero, Nat.le_refl, Nat.reduceAdd, Nat.reduceLT, zPn]
      refine ⟨_, 0, 0, ⟨by decide, by omega, by omega⟩, CanM.mono (c_contains hfl (by omega) (by omega) _) ?_⟩
      rintro r w' ⟨rfl, rfl⟩
      simp only [zwp, oJump, oPush, oILoad, oALoad, oLLoad, oDLoad, oIStore, oAStore, oLStore, oDStore, oIinc, o_iadd, o_isub, o_imul, o_iand, o_ior, o_ixor, o_ishl, o_ishr, o_iushr, o_idiv, o_ladd, o_lsub, o_lmul, o_ldiv, o_lrem, o_ddiv, o_i2l, o_l2i, o_i2d, o_i2b, o_lcmp, o_dcmp, o_dup, o_dup2, o_pop, o_ic_eq, o_ic_ne, o_ic_lt, o_ic_ge, o_ic_gt, o_ic_le, o_if_eq, o_if_ne, o_if_lt, o_if_ge, o_if_gt, o_if_le, o_goto, oSwitch, zsw, oGetf, oPutI, oPutZ, oPutJ, oPutA, oIald, oLald, oDald, oBald, oZald, oIast, oLast, oDast, oBast, oZast, oAald, oAast, o_mmax, o_mmin, oCall, oCallM, oCallMV, oIret, oZret, oLret, oDret, oVret, oThrow, zMO, zThru, zpop, zShort, zRecv, zg, zok1, List.set_cons_zero, List.set_cons_succ, List.getElem?_cons_zero, List.getElem?_cons_succ, List.length_cons, List.length_nil, List.length_set, Option.toList_some, Option.toList_none, List.cons_append, List.nil_append, Value.category, true_and, and_true, Nat.zero_add, Nat.add_zero, Nat.le_refl, Nat.reduceAdd, Nat.reduceLT, zPn]
      rw [zb_eq0]
      refine ⟨fun hf => n77 _ (by rw [if_neg (by rw [hf]; decide)]), fun hf => b65 _ _ _ _ _ ?_⟩
      have hf : A.testBit u = true := by simpa using hf
      obtain ⟨-, j, hj, rfl⟩ := (hAb u).mp hf
      have h1 := (he j hj).2
      have h2 := hend j hj
      simp only [zwp, oJump, oPush, oILoad, oALoad, oLLoad, oDLoad, oIStore, oAStore, oLStore, oDStore, oIinc, o_iadd, o_isub, o_imul, o_iand, o_ior, o_ixor, o_ishl, o_ishr, o_iushr, o_idiv, o_ladd, o_lsub, o_lmul, o_ldiv, o_lrem, o_ddiv, o_i2l, o_l2i, o_i2d, o_i2b, o_lcmp, o_dcmp, o_dup, o_dup2, o_pop, o_ic_eq, o_ic_ne, o_ic_lt, o_ic_ge, o_ic_gt, o_ic_le, o_if_eq, o_if_ne, o_if_lt, o_if_ge, o_if_gt, o_if_le, o_goto, oSwitch, zsw, oGetf, oPutI, oPutZ, oPutJ, oPutA, oIald, oLald, oDald, oBald, oZald, oIast, oLast, oDast, oBast, oZast, oAald, oAast, o_mmax, o_mmin, oCall, oCallM, oCallMV, oIret, oZret, oLret, oDret, oVret, oThrow, zMO, zThru, zpop, zShort, zRecv, zg, zok1, List.set_cons_zero, List.set_cons_succ, List.getElem?_cons_zero, List.getElem?_cons_succ, List.length_cons, List.length_nil, List.length_set, Option.toList_some, Option.toList_none, List.cons_append, List.nil_append, Value.category, true_and, and_true, Nat.zero_add, Nat.add_zero, Nat.le_refl, Nat.reduceAdd, Nat.reduceLT, zPn]
      rw [cl (by omega), (he j hj).1, zmax_nI (by omega) (by omega)]
      exact ⟨vin (by omega) (by decide), n77 _ (by rw [if_pos hf])⟩
  exact loop 0 (Nat.zero_le _)
end PN
