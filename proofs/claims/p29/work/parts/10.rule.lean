/-! THE LAYER, 5: the rule of a method; throws; constructors; the private static of the nest -/
section ZZ5
theorem zMeth {l : Launch} {y : MethodName} {ws ws' : List Cond} {cc : ByteArray} {maxL d mc ms : Nat} {ret : Option FieldType} {av : List Value} {w : zW} {Φ : zO → zW → Prop} {lv : zPL} (hfl : l.stackTraces = false) (hy : plainName y.cls = true) (hw : ws = Cond.code y cc maxL ret :: ws') (hlen : lv.length = maxL)
    (hlv : ∀ ad : Nat → Nat, lv_args 0 (av.map (zv ad)) = zAs ad 0 lv) (hsl : ∀ ad : Nat → Nat, (lg_sl (av.map (zv ad))).length ≤ maxL)
    (body : ∀ X : zM, X.1.2.1 = l → zB X cc ws y.cls d mc ms → zM9 X ret w mc ms Φ → zEx X w mc ms Φ → zAt X 0 lv [] w 0 0) : Can l y ws d mc ms av w Φ := by
  intro D dA ad sz
  refine vx_ofW (cc := cc) (maxL := maxL) (ret := ret) hy hw ?_
  intro p e s m args below meth c s₁ B hml hnt hv
  obtain ⟨rfl, rfl, h1, h2, h3, h4⟩ := hv
  have h := body ((p, l, e, (headSpec ws (zRoom d mc ms)).room), (s, m, ((av.map (zv ad)).toArray), below, meth, c), (D, dA, va_A (zw dA ad w) s.heap.size, maxL, vx_MQ below (zQ D dA ad w (va_A (zw dA ad w) s.heap.size) Φ) (zXc D dA ad w (va_A (zw dA ad w) s.heap.size) Φ) (av.map (zv ad)).toArray s mc ms (va_A (zw dA ad w) s.heap.size)), (ad, w.length)) rfl
    ⟨B.exec, B.bytes, hml, atoms_spec (ws := ws) B.pre, findClass_of_methodNamed B.named, h2, B.notSynchronized, fun q hq => Or.inr hq, h4, ⟨Nat.le_refl _, Nat.le_refl _, Nat.le_refl _, Nat.le_refl _⟩, hfl⟩
    ⟨B.returns, rfl, fun H locs g k => vx_ret k⟩ ⟨hnt, rfl, rfl⟩
  have hl := lv_entry (av.map (zv ad)) (n := maxL) (hsl ad)
  rw [hlv ad] at hl
  rw [lg_entry_eq]
  exact h ad s.heap [] _ (fun _ _ => rfl) (Nat.le_refl _) h1 h3.self va_S.rf ⟨hlen, hl⟩
/-! a throw of an own text -/
def oThrow (Φ : zO → zW → Prop) (E : String) (N MC MS : Nat) (_ : zK) (_ : zNx) (_ : zPL) (st : List Value) (w : zW) (k n : Nat) : Prop := zShort st = true ∧ Φ (.inr E) w ∧ w.length = N ∧ k + 1 ≤ MC ∧ n + 6 ≤ MS
theorem zo_throw {X : zM} {cc : ByteArray} {ws : List Cond} {d MC MS : Nat} {pc : Nat} {w0 : zW} {Φ : zO → zW → Prop} (C : zB X cc ws RX7 d MC MS) (hE : zEx X w0 MC MS Φ) {ik is ic : Nat} {cls text : String} {names : List String}
    (d0 : decode cc pc = .ok (.new ik, 3)) (d3 : decode cc (pc + 3) = .ok (.dup, 1)) (d4 : decode cc (pc + 4) = .ok (.ldc is, 2)) (d6 : decode cc (pc + 6) = .ok (.invokespecial ic, 3)) (d9 : decode cc (pc + 9) = .ok (.athrow, 1))
    (hcls : Bundle.fit cls = true) (hnames : ∀ n ∈ names, Bundle.fit n = true) (hk : Cond.classLink RX7 ik cls ∈ ws) (hini : Cond.initialized cls ∈ ws) (hstr : Cond.stringRef RX7 is text ∈ tables_1)
    (hat1 : ∀ w ∈ (vx_atS RX7 ic cls names).filter goodWord, w ∈ ws) (hat2 : ∀ w ∈ (vx_atS RX7 ic cls names).filter (fun w => !goodWord w), w ∈ Cond.castable cls cls :: zY3.map (fun x => Cond.declares x)) (hE3 : cls ∈ zX3)
    (hgood : ∀ w ∈ Cond.classLink RX7 ik cls :: Cond.initialized cls :: vx_atS RX7 ic cls names, vx_ot w = true) (hn9 : names.length ≤ 3) (hd9 : 7 ≤ d) : zOk X pc (oThrow Φ cls w0.length MC MS) (pc + 10) := by
  obtain ⟨⟨p, l, e, R⟩, ⟨s, m, args, below, meth, c⟩, ⟨D, dA, A, nL, Q⟩, ad0, N0⟩ := X
  obtain ⟨hx, hb, hml, hts, hown, hK, hlk, hA, hZ, hR, hfl⟩ := C
  obtain ⟨hnt, hN0, hQ⟩ := hE
  have hN0 : N0 = w0.length := hN0
  have hQ : Q = vx_MQ below (zQ D dA ad0 w0 A Φ) (zXc D dA ad0 w0 A Φ) args s MC MS A := hQ
  subst hQ
  intro K nx hJ hn ls st w k n h ad H locs la hag hN hP hD hS hl
  obtain ⟨hs9, hΦ, hlen, h1, h2⟩ := h
  have hc9 := zShort_le hs9
  obtain ⟨z1, z2, z3, z4, z5, z6, z7, z8⟩ := hZ
  obtain ⟨sa, hsa⟩ := z3 is text hstr
  have := hlen ▸ hN0 ▸ hag
  rw [hlen, hN0] at hag
  have hae := zag_eq hag
  subst hae
  refine vx_throwS hx hb hfl hown hcls hnames (hts _ hk) (hts _ hini) hsa (vx_hat (fun w hw => hts w (hat1 w hw)) hat2 (fun w hw => ?_)) hgood z1 z2 hS (hl.2.1.trans hml.symm) d0 d3 d4 d6 d9 (fun x hx => (hnt x hx).elim) (by omega) (by rw [zs_cat]; omega) (by omega) (by omega) hlk (fun t ht hz hkp => ?_) hS.2.2 h1 h2
  · rcases List.mem_cons.mp hw with rfl | hw
    · exact va_Nw.use rfl (z4 cls hE3)
    · obtain ⟨x, hx9, rfl⟩ := List.mem_map.mp hw
      exact va_Nw.use rfl (z8 x hx9)
  · refine ⟨⟨w, hΦ, hlen, hP.kept (fun k q hq => hkp q.1 (hP k q hq).lt), hD⟩, ?_, fun q hq hq2 => ?_⟩
    · exact Nat.le_trans hS.1 hz
    · rw [hkp q (Nat.lt_of_lt_of_le hq hS.1)]
      exact hS.2.1 q hq hq2
theorem zo_throwW {X : zM} {cc : ByteArray} {ws : List Cond} {d MC MS : Nat} {pc : Nat} {w0 : zW} {Φ : zO → zW → Prop} (C : zB X cc ws RX7 d MC MS) (hE : zEx X w0 MC MS Φ) {ik is ic : Nat} {cls text : String} {names : List String}
    (d0 : decode cc pc = .ok (.new ik, 3)) (d3 : decode cc (pc + 3) = .ok (.dup, 1)) (d4 : decode cc (pc + 4) = .ok (.ldc_w is, 3)) (d6 : decode cc (pc + 7) = .ok (.invokespecial ic, 3)) (d9 : decode cc (pc + 10) = .ok (.athrow, 1))
    (hcls : Bundle.fit cls = true) (hnames : ∀ n ∈ names, Bundle.fit n = true) (hk : Cond.classLink RX7 ik cls ∈ ws) (hini : Cond.initialized cls ∈ ws) (hstr : Cond.stringRef RX7 is text ∈ tables_1)
    (hat1 : ∀ w ∈ (vx_atS RX7 ic cls names).filter goodWord, w ∈ ws) (hat2 : ∀ w ∈ (vx_atS RX7 ic cls names).filter (fun w => !goodWord w), w ∈ Cond.castable cls cls :: zY3.map (fun x => Cond.declares x)) (hE3 : cls ∈ zX3)
    (hgood : ∀ w ∈ Cond.classLink RX7 ik cls :: Cond.initialized cls :: vx_atS RX7 ic cls names, vx_ot w = true) (hn9 : names.length ≤ 3) (hd9 : 7 ≤ d) : zOk X pc (oThrow Φ cls w0.length MC MS) (pc + 11) := by
  obtain ⟨⟨p, l, e, R⟩, ⟨s, m, args, below, meth, c⟩, ⟨D, dA, A, nL, Q⟩, ad0, N0⟩ := X
  obtain ⟨hx, hb, hml, hts, hown, hK, hlk, hA, hZ, hR, hfl⟩ := C
  obtain ⟨hnt, hN0, hQ⟩ := hE
  have hN0 : N0 = w0.length := hN0
  have hQ : Q = vx_MQ below (zQ D dA ad0 w0 A Φ) (zXc D dA ad0 w0 A Φ) args s MC MS A := hQ
  subst hQ
  intro K nx hJ hn ls st w k n h ad H locs la hag hN hP hD hS hl
  obtain ⟨hs9, hΦ, hlen, h1, h2⟩ := h
  have hc9 := zShort_le hs9
  obtain ⟨z1, z2, z3, z4, z5, z6, z7, z8⟩ := hZ
  obtain ⟨sa, hsa⟩ := z3 is text hstr
  have := hlen ▸ hN0 ▸ hag
  rw [hlen, hN0] at hag
  have hae := zag_eq hag
  subst hae
  refine vx_throwSW hx hb hfl hown hcls hnames (hts _ hk) (hts _ hini) hsa (vx_hat (fun w hw => hts w (hat1 w hw)) hat2 (fun w hw => ?_)) hgood z1 z2 hS (hl.2.1.trans hml.symm) d0 d3 d4 d6 d9 (fun x hx => (hnt x hx).elim) (by omega) (by rw [zs_cat]; omega) (by omega) (by omega) hlk (fun t ht hz hkp => ?_) hS.2.2 h1 h2
  · rcases List.mem_cons.mp hw with rfl | hw
    · exact va_Nw.use rfl (z4 cls hE3)
    · obtain ⟨x, hx9, rfl⟩ := List.mem_map.mp hw
      exact va_Nw.use rfl (z8 x hx9)
  · refine ⟨⟨w, hΦ, hlen, hP.kept (fun k q hq => hkp q.1 (hP k q hq).lt), hD⟩, ?_, fun q hq hq2 => ?_⟩
    · exact Nat.le_trans hS.1 hz
    · rw [hkp q (Nat.lt_of_lt_of_le hq hS.1)]
      exact hS.2.1 q hq hq2
/-! a method that returns, by the plain contract (for calls that the nest alone may make) -/
def zMO (Φ : Option Value → zW → Prop) : zO → zW → Prop := fun o w' => match o with
    | .inl r => Φ r w'
    | .inr _ => False
def CanM (l : Launch) (y : MethodName) (ws : List Cond) (d mc ms : Nat) (av : List Value) (w : zW) (Φ : Option Value → zW → Prop) : Prop :=
  ∀ (D : va_G) (dA : Nat → ClassId) (ad : Nat → Nat) (sz : Nat), Met l y ws (zRoom d mc ms) (va_Pc (av.map (zv ad)) (zPre D dA ad w sz)) (zQ D dA ad w (va_A (zw dA ad w) sz) (zMO Φ)) mc ms (va_A (zw dA ad w) sz)
theorem zMethM {l : Launch} {y : MethodName} {ws ws' : List Cond} {cc : ByteArray} {maxL d mc ms : Nat} {ret : Option FieldType} {av : List Value} {w : zW} {Φ : Option Value → zW → Prop} {lv : zPL} (hfl : l.stackTraces = false) (hy : plainName y.cls = true) (hw : ws = Cond.code y cc maxL ret :: ws') (hlen : lv.length = maxL)
    (hlv : ∀ ad : Nat → Nat, lv_args 0 (av.map (zv ad)) = zAs ad 0 lv) (hsl : ∀ ad : Nat → Nat, (lg_sl (av.map (zv ad))).length ≤ maxL)
    (body : ∀ X : zM, X.1.2.1 = l → zB X cc ws y.cls d mc ms → zM9 X ret w mc ms (zMO Φ) → zAt X 0 lv [] w 0 0) : CanM l y ws d mc ms av w Φ := by
  intro D dA ad sz
  refine Met.ofW (cc := cc) (maxL := maxL) (ret := ret) hy hw ?_
  intro p e s m args below meth c s₁ B hml hv
  obtain ⟨rfl, rfl, h1, h2, h3, h4⟩ := hv
  have h := body ((p, l, e, (headSpec ws (zRoom d mc ms)).room), (s, m, ((av.map (zv ad)).toArray), below, meth, c), (D, dA, va_A (zw dA ad w) s.heap.size, maxL, MQ below (zQ D dA ad w (va_A (zw dA ad w) s.heap.size) _) (av.map (zv ad)).toArray s mc ms (va_A (zw dA ad w) s.heap.size)), (ad, w.length)) rfl
    ⟨B.exec, B.bytes, hml, atoms_spec (ws := ws) B.pre, findClass_of_methodNamed B.named, h2, B.notSynchronized, fun q hq => Or.inr hq, h4, ⟨Nat.le_refl _, Nat.le_refl _, Nat.le_refl _, Nat.le_refl _⟩, hfl⟩
    ⟨B.returns, rfl, fun H locs g k => k⟩
  have hl := lv_entry (av.map (zv ad)) (n := maxL) (hsl ad)
  rw [hlv ad] at hl
  rw [lg_entry_eq]
  exact h ad s.heap [] _ (fun _ _ => rfl) (Nat.le_refl _) h1 h3.self va_S.rf ⟨hlen, hl⟩
def oCallM (l : Launch) (y : MethodName) (wsy : List Cond) (na : Nat) (d MC MS : Nat) (_ : zK) (nx : zNx) (ls : zPL) (st : List Value) (w : zW) (k n : Nat) : Prop := match zpop na st [] with
  | some (av, rest) => zShort rest = true ∧ ∃ d' mc' ms', (d' + 1 ≤ d ∧ k + mc' ≤ MC ∧ n + ms' ≤ MS) ∧ CanM l y wsy d' mc' ms' av w (fun r w' => nx ls (r.toList ++ rest) w' (k + mc') (n + ms'))
  | none => False
def oCallMV (l : Launch) (y : MethodName) (wsy : List Cond) (na ci : Nat) (d MC MS : Nat) (_ : zK) (nx : zNx) (ls : zPL) (st : List Value) (w : zW) (k n : Nat) : Prop := match zpop na st [] with
  | some (av, rest) => zShort rest = true ∧ zRecv w ci av ∧ ∃ d' mc' ms', (d' + 1 ≤ d ∧ k + mc' ≤ MC ∧ n + ms' ≤ MS) ∧ CanM l y wsy d' mc' ms' av w (fun r w' => nx ls (r.toList ++ rest) w' (k + mc') (n + ms'))
  | none => False
theorem zm_after {X : zM} {p : Program} {l : Launch} {e : Env} {R : Room} {s : State} {m : MethodId} {args : Array Value} {below : List Frame} {meth : Method} {c : Code} {D : va_G} {dA : Nat → ClassId} {A : Nat → Prop} {nL : Nat} {Q : State → Prop} {ad0 : Nat → Nat} {N0 : Nat} (hX : X = ((p, l, e, R), (s, m, args, below, meth, c), (D, dA, A, nL, Q), ad0, N0)) {pc k n mc' ms' : Nat} {nx : zNx} {ls : zPL} {rest st9 : List Value} {av : Array Value} {w : zW} {ad : Nat → Nat} {H : Heap} {locs : List Loc} {la : Array Slot}
    (run : va_Run p l e R s m args below meth c H locs k n mc' ms' (F0 m pc la st9) (rest.map (zv ad)) (zQ D dA ad w (va_A (zw dA ad w) H.size) (zMO (fun r w' => nx ls (r.toList ++ rest) w' (k + mc') (n + ms'))) av) (va_A (zw dA ad w) H.size))
    (hn : ∀ ls st w k n, nx ls st w k n → zAt X (pc + 3) ls st w k n) (hsub : ∀ q, va_A (zw dA ad w) H.size q → A q) (hag : zag N0 w.length ad ad0) (hN : N0 ≤ w.length) (hS : va_S A s.heap H locs) (hl : zL ad la nL ls) : W p l e R s m args below meth c H locs k n Q (F0 m pc la st9) := by
  subst hX
  intro T hT X9
  obtain ⟨v, st₀, t, T', L, h0, X', hL, e1, e2, ⟨⟨r, w', hv, hΦ, hE⟩, hF⟩, stp⟩ := run T hT X9
  obtain ⟨-, -, k3⟩ := vx_keep h0 e1 hS (fun q _ h => hsub q h) hsub hL hF
  have hz := hn ls (r.toList ++ rest) w' (k + mc') (n + ms') hΦ ad T'.heap (locs ++ L) la (by rw [hE.1]; exact hag) (by rw [hE.1]; exact hN) (by rw [e1]; exact hE.2.1) (hE.2.2.weaken (fun _ q _ h => hsub q.1 h)) k3 hl
  obtain ⟨t2, a1, b1⟩ := hz T' rfl X'
  have hv2 : v = r.map (zv ad) := by
    have := hv
    injection this
  rw [z_ret, ← hv2] at a1
  exact ⟨t2, stp t2 a1, b1⟩
theorem zo_callSN {X : zM} {cc : ByteArray} {ws : List Cond} {own : String} {d MC MS : Nat} {pc : Nat} (C : zB X cc ws own d MC MS) {i na maxL : Nat} {y : MethodName} {wsy ws9 : List Cond} {bytes : ByteArray} {rt : Option FieldType} {host : String} (hd : decode cc pc = .ok (.invokestatic i, 3)) (hlk9 : Cond.methodLinkNest own i y host ∈ tables_1) (hG : GoodIn ws wsy) (hst : Cond.static y ∈ ws) (hi9 : Cond.initialized y.cls ∈ ws) (hw : wsy = Cond.code y bytes maxL rt :: ws9) (hdd : y.cls ≠ "java/lang/invoke/MethodHandle" ∧ y.cls ≠ "java/lang/invoke/VarHandle" ∧ (parseMethodDescriptor y.desc).map (fun d => d.parameters.length) = some na) (hm9 : maxL ≤ 45) : zOk X pc (oCallM X.1.2.1 y wsy na d MC MS) (pc + 3) := by
  obtain ⟨⟨p, l, e, R⟩, ⟨s, m, args, below, meth, c⟩, ⟨D, dA, A, nL, Q⟩, ad0, N0⟩ := X
  obtain ⟨hx, hb, hml, hts, hown, hK, hlk, hA, hZ, hR, hfl⟩ := C
  intro K nx hJ hn ls st w k n h ad H locs la hag hN hP hD hS hl
  unfold oCallM at h
  split at h
  · rename_i av rest hpop
    obtain ⟨hs9, d', mc', ms', ⟨r1, r2, r3⟩, hcan⟩ := h
    have hc9 := zShort_le hs9
    obtain ⟨a9, g1, g2, g3⟩ := zpop_eq _ _ _ _ _ hpop
    rw [List.append_nil] at g1
    subst g1
    subst g2
    have hsub := z_sub hA hD hS
    have run := va_runSN (p := p) (e := e) (meth := meth) (below := below) (As := av.map (zv ad)) (rest := rest.map (zv ad)) (locs := locs) (cells := k) (slots := n) (g := F0 m pc la (av.reverse.map (zv ad) ++ rest.map (zv ad))) ⟨hx, hb, hml, hown, hts⟩ (hcan D dA ad H.size) ⟨va_cnB na hts hG hw rfl rfl (hZ.2.2.2.2.2.2.1 _ _ _ _ hlk9) (hts _ hi9) hdd ⟨by show d' + 1 ≤ R.frames; omega, by show 8 + (maxL + 11) + 64 * d' ≤ R.locals; omega⟩, hts _ hst, trivial⟩ ⟨zPre_blind _ _ _ _ _ _, z_pre _ hK hZ hP hD hS hsub⟩ rfl (by rw [List.length_map]; exact g3) hl.2.1 (by simp) (by rw [zs_cat, show JFrame.monitorRoom (F0 m pc la (av.reverse.map (zv ad) ++ rest.map (zv ad))) = 0 from rfl]; omega) hd ⟨by omega, by omega⟩
    rw [List.map_append]
    exact zm_after rfl run hn hsub hag hN hS hl
  · exact h.elim
theorem zo_callVN {X : zM} {cc : ByteArray} {ws : List Cond} {own : String} {d MC MS : Nat} {pc : Nat} (C : zB X cc ws own d MC MS) {i na maxL ci N : Nat} {T : u_T} {Cn : String} {y : MethodName} {wsy ws9 : List Cond} {bytes : ByteArray} {rt : Option FieldType} {host : String} (hd : decode cc pc = .ok (.invokevirtual i, 3)) (hc : vwCl[ci]? = some (Cn, T, N)) (hlk9 : Cond.methodLinkNest own i y host ∈ tables_1) (hG : GoodIn ws wsy) (hst : Cond.instanceMethod y ∈ ws) (hse : Cond.selects Cn y y ∈ ws) (hi9 : Cond.initialized y.cls ∈ ws) (hw : wsy = Cond.code y bytes maxL rt :: ws9) (hdd : y.cls ≠ "java/lang/invoke/MethodHandle" ∧ y.cls ≠ "java/lang/invoke/VarHandle" ∧ (parseMethodDescriptor y.desc).map (fun d => d.parameters.length) = some na) (hm9 : maxL ≤ 45) : zOk X pc (oCallMV X.1.2.1 y wsy (na + 1) ci d MC MS) (pc + 3) := by
  obtain ⟨⟨p, l, e, R⟩, ⟨s, m, args, below, meth, c⟩, ⟨D, dA, A, nL, Q⟩, ad0, N0⟩ := X
  obtain ⟨hx, hb, hml, hts, hown, hK, hlk, hA, hZ, hR, hfl⟩ := C
  intro K nx hJ hn ls st w k n h ad H locs la hag hN hP hD hS hl
  unfold oCallMV at h
  split at h
  · rename_i av rest hpop
    obtain ⟨hs9, hrec, d', mc', ms', ⟨r1, r2, r3⟩, hcan⟩ := h
    have hc9 := zShort_le hs9
    obtain ⟨a9, g1, g2, g3⟩ := zpop_eq _ _ _ _ _ hpop
    rw [List.append_nil] at g1
    subst g1
    subst g2
    have hsub := z_sub hA hD hS
    cases av with
    | nil => exact hrec.elim
    | cons v0 as =>
    cases v0 with
    | ref a =>
      unfold zRecv at hrec
      dsimp only at hrec
      split at hrec
      · rename_i c8 fs8 hg8
        have hrec : c8 = ci := hrec
        subst hrec
        have run := va_runVN (C := Cn) (p := p) (e := e) (meth := meth) (below := below) (As := as.map (zv ad)) (rest := rest.map (zv ad)) (locs := locs) (cells := k) (slots := n) (g := F0 m pc la ((Value.ref a :: as).reverse.map (zv ad) ++ rest.map (zv ad))) ⟨hx, hb, hml, hown, hts⟩ (hcan D dA ad H.size) ⟨va_cnB na hts hG hw rfl rfl (hZ.2.2.2.2.2.2.1 _ _ _ _ hlk9) (hts _ hi9) hdd ⟨by show d' + 1 ≤ R.frames; omega, by show 8 + (maxL + 11) + 64 * d' ≤ R.locals; omega⟩, hts _ hst, hts _ hse⟩ ⟨zPre_blind _ _ _ _ _ _, va_recv hK hP hc (zw_at (zg_some hg8)), z_pre _ hK hZ hP hD hS hsub⟩ rfl (by rw [List.length_map]; simpa using g3) hl.2.1 (by simp [zv]) (by rw [zs_cat, show JFrame.monitorRoom (F0 m pc la ((Value.ref a :: as).reverse.map (zv ad) ++ rest.map (zv ad))) = 0 from rfl]; omega) hd ⟨by omega, by omega⟩
        rw [List.map_append]
        exact zm_after rfl run hn hsub hag hN hS hl
      · exact hrec.elim
    | _ => exact hrec.elim
  · exact h.elim
theorem CanM.can {l : Launch} {y : MethodName} {ws : List Cond} {d mc ms : Nat} {av : List Value} {w : zW} {Φ : Option Value → zW → Prop} (h : CanM l y ws d mc ms av w Φ) : Can l y ws d mc ms av w (zMO Φ) := by
  intro D dA ad sz p e h1 h2 h3 s m args below h4 h5 h6 h7
  obtain ⟨n, o, k1, k2, k3, k4⟩ := h D dA ad sz p e h1 h2 h3 s m args below h4 h5 h6 h7
  exact ⟨n, o, k1, k2, k3, Or.inl k4⟩
theorem CanM.mono {l : Launch} {y : MethodName} {ws : List Cond} {d mc ms : Nat} {av : List Value} {w : zW} {Φ Ψ : Option Value → zW → Prop} (h : CanM l y ws d mc ms av w Φ) (hi : ∀ o w', Φ o w' → Ψ o w') : CanM l y ws d mc ms av w Ψ := by
  intro D dA ad sz p e h1 h2 h3 s m args below h4 h5 h6 h7
  obtain ⟨n, o, k1, k2, k3, k4, k5⟩ := h D dA ad sz p e h1 h2 h3 s m args below h4 h5 h6 h7
  refine ⟨n, o, k1, k2, k3, ?_, k5⟩
  obtain ⟨⟨r, w', q1, q2, q3⟩, q4⟩ := k4
  exact ⟨⟨r, w', q1, hi _ _ q2, q3⟩, q4⟩
/-! a switch -/
def zsw (K : zK) (ls : zPL) (st : List Value) (w : zW) (k n : Nat) (x : Int) : Int → List Nat → Prop
  | _, [] => True
  | lo, t :: r => (x = lo → K t ls st w k n) ∧ zsw K ls st w k n x (lo + 1) r
theorem zsw_get {K : zK} {ls : zPL} {st : List Value} {w : zW} {k n : Nat} {x : Int} : ∀ {tg : List Nat} {lo : Int} {j t : Nat}, zsw K ls st w k n x lo tg → tg[j]? = some t → x = lo + j → K t ls st w k n
  | [], lo, j, t, _, h, _ => by simp at h
  | t0 :: r, lo, 0, t, h, h2, h3 => by
    have : t0 = t := by simpa using h2
    subst this
    exact h.1 (by simpa using h3)
  | t0 :: r, lo, j + 1, t, h, h2, h3 => zsw_get (tg := r) (lo := lo + 1) (j := j) h.2 (by simpa using h2) (by rw [h3]; omega)
def oSwitch (lo : Int) (tg : List Nat) (df : Nat) (K : zK) (_ : zNx) (ls : zPL) (st : List Value) (w : zW) (k n : Nat) : Prop := match st with
  | .int x :: st => zsw K ls st w k n x.toInt lo tg ∧ (x.toInt < lo ∨ lo + tg.length ≤ x.toInt → K df ls st w k n)
  | _ => False
theorem zo_switch {X : zM} {cc : ByteArray} {ws : List Cond} {own : String} {d MC MS : Nat} {pc : Nat} (C : zB X cc ws own d MC MS) {dflt lo hi : Int} {offs : Array Int} {len df : Nat} {tg : List Nat} (hd : decode cc pc = .ok (.tableswitch dflt lo hi offs, len)) (hdf : (pc : Int) + dflt = (df : Int)) (hoff : offs.toList.map (fun o => (pc : Int) + o) = tg.map (fun (t : Nat) => (t : Int))) (hhi : hi = lo + tg.length - 1) : zOk X pc (oSwitch lo tg df) (pc + len) := by
  obtain ⟨⟨p, l, e, R⟩, ⟨s, m, args, below, meth, c⟩, ⟨D, dA, A, nL, Q⟩, ad0, N0⟩ := X
  obtain ⟨hx, hb, hml, hts, hown, hK, hlk, hA, hZ, hR, hfl⟩ := C
  intro K nx hJ hn ls st w k n h ad H locs la hag hN hP hD hS hl
  unfold oSwitch at h
  split at h
  · rename_i x st
    obtain ⟨h1, h2⟩ := h
    by_cases hr : x.toInt < lo ∨ hi < x.toInt
    · exact lv_tableOut hx hb hd hr hdf (hJ _ _ _ _ _ _ (h2 (by omega)) ad H locs la hag hN hP hD hS hl)
    · have hlen : offs.toList.length = tg.length := by simpa using congrArg List.length hoff
      have hj : (x.toInt - lo).toNat < tg.length := by omega
      have ho : offs[(x.toInt - lo).toNat]? = some (offs.toList[(x.toInt - lo).toNat]'(by omega)) := by
        rw [← Array.getElem?_toList]
        exact List.getElem?_eq_getElem (by omega)
      have ht : (pc : Int) + offs.toList[(x.toInt - lo).toNat]'(by omega) = (tg[(x.toInt - lo).toNat]'hj : Int) := by
        have := congrArg (fun q : List Int => q[(x.toInt - lo).toNat]?) hoff
        simp only [List.getElem?_map] at this
        rw [List.getElem?_eq_getElem (by omega : (x.toInt - lo).toNat < offs.toList.length), List.getElem?_eq_getElem hj] at this
        simpa using this
      exact lv_tableIn hx hb hd (by omega) (by omega) ho ht (hJ _ _ _ _ _ _ (zsw_get h1 (List.getElem?_eq_getElem hj) (by omega)) ad H locs la hag hN hP hD hS hl)
  · exact h.elim
end ZZ5
