/-! p29, THE START -/
section ST9
theorem law_stat {args : Array Value} {s : State} (hts : ∀ w ∈ lw_tbl, w.before args s = true) (hgv : (Jvm.Cond.and given_1 narrow_1).before args s = true) : zStat (fun q : Nat => s.heap.size ≤ q) s := by
  have hf := flat_of_before _ hgv
  have hT : ∀ w ∈ tables_1, w.before args s = true := fun w h => hts w (List.mem_append_right _ h)
  have hA : ∀ a : Nat, a < s.heap.size → ¬ (s.heap.size ≤ a) := fun a h => Nat.not_le.mpr h
  refine ⟨vx_Zqof (hT _ (by decide +kernel)) (hT _ (by decide +kernel)) (hf _ (by decide +kernel)) hA, vx_Zqof (hT _ (by decide +kernel)) (hT _ (by decide +kernel)) (hf _ (by decide +kernel)) hA, ?_, ?_, ?_, va_AO.of (hT _ (by decide +kernel)), fun a i y h hm => va_Nw.of rfl (hT _ hm), ?_⟩
  · intro k tx hk
    obtain ⟨cC, kC, hfc, -⟩ := Cond.instantiable_spec (hT (.instantiable RX7 10) (by decide +kernel))
    have h1 : (Cond.stringRef RX7 k tx).before #[] s = true := hT _ hk
    obtain ⟨_, _, _, a, -, -, -, -, -, he⟩ := Cond.stringRef_spec hfc h1
    exact ⟨a, h1, he⟩
  · intro E hE
    exact va_Nw.of rfl (hT _ ((by decide +kernel : ∀ E ∈ zX3, Cond.castable E E ∈ tables_1) E hE))
  · trivial
  · intro x hx
    exact va_Nw.of rfl (hT _ ((by decide +kernel : ∀ x ∈ zY3, Cond.declares x ∈ tables_1) x hx))
set_option maxRecDepth 100000 in
theorem whole_start {p : Program} {e : Env} {s : State} {m : MethodId} {below : List Frame} {meth : Method} {c : Code} (l : Launch) (hflags : l.flags = flags0) {b L : Nat} {xs : Nat → Int32} (hL : L ≤ 260) (C0 : lw_At p s m meth c b L xs) : W p l e room_1 s m #[Value.ref b] below meth c s.heap [] 0 0 (lw_Z below #[Value.ref b] s) (entryFrame m ([Value.ref b] : List Value).toArray 8) := by
  obtain ⟨hx, hb, hr, hml, hown, hts, hX, hbl, hlocks, hgv⟩ := id C0
  have hfl : l.stackTraces = false := by
    show (!l.flags.contains noTraceFlag) = false
    rw [hflags]
    decide +kernel
  have hT : ∀ w ∈ tables_1, w.before #[Value.ref b] s = true := fun w h => hts w (List.mem_append_right _ h)
  obtain ⟨c0, i0, k0⟩ := u_known (C := RX0) (T := TX0) (N := 10) (n := 10) hts inX0 (hts (.instantiable RX0 10) (by decide +kernel))
  obtain ⟨c1, i1, k1⟩ := u_known (C := RX1) (T := TX1) (N := 3) (n := 3) hts inX1 (hts (.instantiable RX1 3) (by decide +kernel))
  obtain ⟨c2, i2, k2⟩ := u_known (C := RX2) (T := TX2) (N := 2) (n := 2) hts inX2 (hts (.instantiable RX2 2) (by decide +kernel))
  obtain ⟨c3, i3, k3⟩ := u_known (C := RX3) (T := TX3) (N := 11) (n := 11) hts inX3 (hts (.instantiable RX3 11) (by decide +kernel))
  obtain ⟨c4, i4, k4⟩ := u_known (C := RX4) (T := TX4) (N := 3) (n := 3) hts inX4 (hts (.instantiable RX4 3) (by decide +kernel))
  obtain ⟨c5, i5, k5⟩ := u_known (C := RX5) (T := TX5) (N := 8) (n := 8) hts inX5 (hts (.instantiable RX5 8) (by decide +kernel))
  obtain ⟨c6, i6, k6⟩ := u_known (C := RX6) (T := TX6) (N := 9) (n := 9) hts inX6 (hts (.instantiable RX6 9) (by decide +kernel))
  obtain ⟨c7, i7, k7⟩ := u_known (C := RX7) (T := TX7) (N := 10) (n := 10) hts inX7 (hts (.instantiable RX7 10) (by decide +kernel))
  obtain ⟨dC, dI, hKc⟩ : ∃ (dC : Nat → ClassId) (dI : Nat → Nat → Nat), ∀ (k : Nat) (q : vw_C), vwCl[k]? = some q → u_Kn s q.1 q.2.1 q.2.2 (dC k) (dI k) := by
    refine ⟨fun k => match k with | 0 => c0 | 1 => c1 | 2 => c2 | 3 => c3 | 4 => c4 | 5 => c5 | 6 => c6 | _ => c7, fun k => match k with | 0 => i0 | 1 => i1 | 2 => i2 | 3 => i3 | 4 => i4 | 5 => i5 | 6 => i6 | _ => i7, ?_⟩
    intro k q hq
    match k, hq with
    | 0, hq => cases hq; exact k0
    | 1, hq => cases hq; exact k1
    | 2, hq => cases hq; exact k2
    | 3, hq => cases hq; exact k3
    | 4, hq => cases hq; exact k4
    | 5, hq => cases hq; exact k5
    | 6, hq => cases hq; exact k6
    | 7, hq => cases hq; exact k7
    | k + 8, hq => cases hq
  obtain ⟨cI, kI, pI, i1, i2, i3⟩ := Cond.arrayClass_spec (hT (.arrayClass .int) (by decide +kernel))
  obtain ⟨cB, kB, pB, b1, b2, b3⟩ := Cond.arrayClass_spec (hT (.arrayClass .byte) (by decide +kernel))
  obtain ⟨pQ, cQ, kQ, q1, -, q2, q3, q4⟩ := Cond.arrayOver_spec (hT (.arrayOver (.object RX5)) (by decide +kernel))
  let dA : Nat → ClassId := fun k => match k with | 0 => cI | 1 => cI | 2 => cI | 3 => cB | 4 => cI | _ => cQ
  have hK : va_K (dC, dI) vwCl (zTys dA) s := by
    refine ⟨hKc, fun k q hq => ?_⟩
    match k, hq with
    | 0, hq => cases hq; exact ⟨fun n z => ⟨fun k h => (by cases h), kI, i2, pI, i3⟩, i1⟩
    | 1, hq => cases hq; exact ⟨fun n z => ⟨fun k h => (by cases h), kI, i2, pI, i3⟩, i1⟩
    | 2, hq => cases hq; exact ⟨fun n z => ⟨fun k h => (by cases h), kI, i2, pI, i3⟩, i1⟩
    | 3, hq => cases hq; exact ⟨fun n z => ⟨fun k h => (by cases h), kB, b2, pB, b3⟩, b1⟩
    | 4, hq => cases hq; exact ⟨fun n z => ⟨fun k h => (by cases h), kI, i2, pI, i3⟩, i1⟩
    | 5, hq => cases hq; exact ⟨fun n z => ⟨fun k h => (by cases h), kQ, q2, pQ, q3⟩, kQ, pQ, q2, q3, q1, q4⟩
    | k + 6, hq => cases hq
  have hl := lv_entry ([.ref b]) (n := 8) (Nat.le_of_ble_eq_true rfl)
  rw [lg_entry_eq]
  generalize (lg_sl ([.ref b]) ++ List.replicate (8 - (lg_sl ([.ref b])).length) Slot.unset).toArray = ls at hl ⊢
  have C : zB ((p, l, e, room_1), (s, m, #[Value.ref b], below, meth, c), ((dC, dI), dA, (fun q : Nat => s.heap.size ≤ q), 8, lw_Z below #[Value.ref b] s), (fun _ => b, 0)) cL_law wsL_law RL 1000 600104 7301314 := ⟨hx, hb, hml, fun w hw => hts w (wsL_law_in w hw), hown, hK, hlocks, fun _ h => h, law_stat hts hgv, ⟨by decide, by decide, by decide, by decide⟩, hfl⟩
  have SL : Lc ((p, l, e, room_1), (s, m, #[Value.ref b], below, meth, c), ((dC, dI), dA, (fun q : Nat => s.heap.size ≤ q), 8, lw_Z below #[Value.ref b] s), (fun _ => b, 0)) L xs := ⟨b, hX, hbl, Nat.not_le.mpr hbl, fun _ => rfl, fun _ h => h, rfl, rfl, rfl, hr⟩
  have go := law_0 C SL hfl hL
  exact go (fun _ => b) s.heap [] ls (fun _ _ => rfl) (Nat.le_refl _) (fun k q h => (nomatch h)) ⟨fun i j p q h => (nomatch h), fun k q h => (nomatch h)⟩ va_S.rf ⟨rfl, hl⟩
end ST9
