/-! THE LAYER, 5: the rule of a method; throws; constructors; the private static of the nest -/
section ZZ5
theorem zMeth {l : Launch} {y : MethodName} {ws ws' : List Cond} {cc : ByteArray} {maxL d mc ms : Nat} {ret : Option FieldType} {av : List Value} {w : zW} {Φ : zO → zW → Prop} {lv : zPL} (hfl : l.stackTraces = false) (hy : plainName y.cls = true) (hw : ws = Cond.code y cc maxL ret :: ws') (hlen : lv.length = maxL)
    (hlv : ∀ ad : Nat → Nat, lv_args 0 (av.map (zv ad)) = zAs ad 0 lv) (hsl : ∀ ad : Nat → Nat, (lg_sl (av.map (zv ad))).length ≤ maxL)
    (body : ∀ X : zM, X.1.2.1 = l → zB X cc ws y.cls d mc ms → zM9 X ret w mc ms Φ → zEx X w mc ms Φ → zAt X 0 lv [] w 0 0) : Can l y ws d mc ms av w Φ := by
  intro D dA ad sz
  refine vx_ofW (cc := cc) (maxL := maxL) (ret := ret) hy hw ?_
  intro p e s m args below meth c s₁ B hml hnt hv
  obtain ⟨rfl, rfl, h1, h2, h3, h4⟩ := hv
  have h := body ((p, l, e, (headSpec ws (zRoom d mc ms)).room), (s, m, ((av.map (zv ad)).toArray), below, meth, c), (D, dA, va_A (zw dA ad w) s.heap.size, maxL, vx_MQ below (zQ D dA ad w (va_A (zw dA ad w) s.heap.size) Φ) (zXc D dA ad w (va_A (zw dA ad w) s.heap.size) Φ) (av.map (zv ad)).toArray s mc ms (va_A (zw dA ad w) s.heap.size)), (ad, w.length)) rfl
    ⟨B.exec, B.bytes, hml, atoms_spec (ws := ws) B.pre, findClass_of_methodNamed B.named, h2, B.notSynchronized, fun q hq => Or.inr hq, h4, ⟨Nat.le_refl _, Nat.le_refl _, Nat.le_refl _, Nat.le_refl _⟩, hfl⟩
    ⟨B.returns, rfl, fun H locs g k => vx_ret k⟩ ⟨hnt, rfl, rfl⟩
  have hl := lv_entry (av.map (zv ad)) (n := maxL) (hsl ad)
  rw [hlv ad] at hl
  rw [lg_entry_eq]
  exact h ad s.heap [] _ (fun _ _ => rfl) (Nat.le_refl _) h1 h3.self va_S.rf ⟨hlen, hl⟩
/-! a throw of an own text -/
def oThrow (Φ : zO → zW → Prop) (E : String) (N MC MS : Nat) (_ : zK) (_ : zNx) (_ : zPL) (st : List Value) (w : zW) (k n : Nat) : Prop := zShort st = true ∧ Φ (.inr E) w ∧ w.length = N ∧ k + 1 ≤ MC ∧ n + 6 ≤ MS
theorem zo_throw {X : zM} {cc : ByteArray} {ws : List Cond} {d MC MS : Nat} {pc : Nat} {w0 : zW} {Φ : zO → zW → Prop} (C : zB X cc ws RX7 d MC MS) (hE : zEx X w0 MC MS Φ) {ik is ic : Nat} {cls text : String} {names : List String}
    (d0 : decode cc pc = .ok (.new ik, 3)) (d3 : decode cc (pc + 3) = .ok (.dup, 1)) (d4 : decode cc (pc + 4) = .ok (.ldc is, 2)) (d6 : decode cc (pc + 6) = .ok (.invokespecial ic, 3)) (d9 : decode cc (pc + 9) = .ok (.athrow, 1))
    (hcls : Bundle.fit cls = true) (hnames : ∀ n ∈ names, Bundle.fit n = true) (hk : Cond.classLink RX7 ik cls ∈ ws) (hini : Cond.initialized cls ∈ ws) (hstr : Cond.stringRef RX7 is text ∈ tables_1)
    (hat1 : ∀ w ∈ (vx_atS RX7 ic cls names).filter goodWord, w ∈ ws) (hat2 : ∀ w ∈ (vx_atS RX7 ic cls names).filter (fun w => !goodWord w), w ∈ [Cond.castable cls cls]) (hE3 : cls ∈ zX3)
    (hgood : ∀ w ∈ Cond.classLink RX7 ik cls :: Cond.initialized cls :: vx_atS RX7 ic cls names, vx_ot w = true) (hn9 : names.length ≤ 3) (hd9 : 7 ≤ d) : zOk X pc (oThrow Φ cls w0.length MC MS) (pc + 10) := by
  obtain ⟨⟨p, l, e, R⟩, ⟨s, m, args, below, meth, c⟩, ⟨D, dA, A, nL, Q⟩, ad0, N0⟩ := X
  obtain ⟨hx, hb, hml, hts, hown, hK, hlk, hA, hZ, hR, hfl⟩ := C
  obtain ⟨hnt, hN0, hQ⟩ := hE
  have hN0 : N0 = w0.length := hN0
  have hQ : Q = vx_MQ below (zQ D dA ad0 w0 A Φ) (zXc D dA ad0 w0 A Φ) args s MC MS A := hQ
  subst hQ
  intro K nx hJ hn ls st w k n h ad H locs la hag hN hP hD hS hl
  obtain ⟨hs9, hΦ, hlen, h1, h2⟩ := h
  have hc9 := zShort_le hs9
  obtain ⟨z1, z2, z3, z4, z5⟩ := hZ
  obtain ⟨sa, hsa⟩ := z3 is text hstr
  have := hlen ▸ hN0 ▸ hag
  rw [hlen, hN0] at hag
  have hae := zag_eq hag
  subst hae
  refine vx_throwS hx hb hfl hown hcls hnames (hts _ hk) (hts _ hini) hsa (vx_hat (fun w hw => hts w (hat1 w hw)) hat2 (fun w hw => ?_)) hgood z1 z2 hS (hl.2.1.trans hml.symm) d0 d3 d4 d6 d9 (fun x hx => (hnt x hx).elim) (by omega) (by rw [zs_cat]; omega) (by omega) (by omega) hlk (fun t ht hz hkp => ?_) hS.2.2 h1 h2
  · rw [List.mem_singleton.mp hw]
    exact va_Nw.use rfl (z4 cls hE3)
  · refine ⟨⟨w, hΦ, hlen, hP.kept (fun k q hq => hkp q.1 (hP k q hq).lt), hD⟩, ?_, fun q hq hq2 => ?_⟩
    · exact Nat.le_trans hS.1 hz
    · rw [hkp q (Nat.lt_of_lt_of_le hq hS.1)]
      exact hS.2.1 q hq hq2
/-! a method that returns, by the plain contract (for calls that the nest alone may make) -/
def CanM (l : Launch) (y : MethodName) (ws : List Cond) (d mc ms : Nat) (av : List Value) (w : zW) (Φ : Option Value → zW → Prop) : Prop :=
  ∀ (D : va_G) (dA : Nat → ClassId) (ad : Nat → Nat) (sz : Nat), Met l y ws (zRoom d mc ms) (va_Pc (av.map (zv ad)) (zPre D dA ad w sz)) (zQ D dA ad w (va_A (zw dA ad w) sz) (fun o w' => match o with
    | .inl r => Φ r w'
    | .inr _ => False)) mc ms (va_A (zw dA ad w) sz)
theorem zMethM {l : Launch} {y : MethodName} {ws ws' : List Cond} {cc : ByteArray} {maxL d mc ms : Nat} {ret : Option FieldType} {av : List Value} {w : zW} {Φ : Option Value → zW → Prop} {lv : zPL} (hfl : l.stackTraces = false) (hy : plainName y.cls = true) (hw : ws = Cond.code y cc maxL ret :: ws') (hlen : lv.length = maxL)
    (hlv : ∀ ad : Nat → Nat, lv_args 0 (av.map (zv ad)) = zAs ad 0 lv) (hsl : ∀ ad : Nat → Nat, (lg_sl (av.map (zv ad))).length ≤ maxL)
    (body : ∀ X : zM, X.1.2.1 = l → zB X cc ws y.cls d mc ms → zM9 X ret w mc ms (fun o w' => match o with
    | .inl r => Φ r w'
    | .inr _ => False) → zAt X 0 lv [] w 0 0) : CanM l y ws d mc ms av w Φ := by
  intro D dA ad sz
  refine Met.ofW (cc := cc) (maxL := maxL) (ret := ret) hy hw ?_
  intro p e s m args below meth c s₁ B hml hv
  obtain ⟨rfl, rfl, h1, h2, h3, h4⟩ := hv
  have h := body ((p, l, e, (headSpec ws (zRoom d mc ms)).room), (s, m, ((av.map (zv ad)).toArray), below, meth, c), (D, dA, va_A (zw dA ad w) s.heap.size, maxL, MQ below (zQ D dA ad w (va_A (zw dA ad w) s.heap.size) _) (av.map (zv ad)).toArray s mc ms (va_A (zw dA ad w) s.heap.size)), (ad, w.length)) rfl
    ⟨B.exec, B.bytes, hml, atoms_spec (ws := ws) B.pre, findClass_of_methodNamed B.named, h2, B.notSynchronized, fun q hq => Or.inr hq, h4, ⟨Nat.le_refl _, Nat.le_refl _, Nat.le_refl _, Nat.le_refl _⟩, hfl⟩
    ⟨B.returns, rfl, fun H locs g k => k⟩
  have hl := lv_entry (av.map (zv ad)) (n := maxL) (hsl ad)
  rw [hlv ad] at hl
  rw [lg_entry_eq]
  exact h ad s.heap [] _ (fun _ _ => rfl) (Nat.le_refl _) h1 h3.self va_S.rf ⟨hlen, hl⟩
def oCallM (l : Launch) (y : MethodName) (wsy : List Cond) (na : Nat) (d MC MS : Nat) (_ : zK) (nx : zNx) (ls : zPL) (st : List Value) (w : zW) (k n : Nat) : Prop := match zpop na st [] with
  | some (av, rest) => zShort rest = true ∧ ∃ d' mc' ms', (d' + 1 ≤ d ∧ k + mc' ≤ MC ∧ n + ms' ≤ MS) ∧ CanM l y wsy d' mc' ms' av w (fun r w' => nx ls (r.toList ++ rest) w' (k + mc') (n + ms'))
  | none => False
theorem zm_after {X : zM} {p : Program} {l : Launch} {e : Env} {R : Room} {s : State} {m : MethodId} {args : Array Value} {below : List Frame} {meth : Method} {c : Code} {D : va_G} {dA : Nat → ClassId} {A : Nat → Prop} {nL : Nat} {Q : State → Prop} {ad0 : Nat → Nat} {N0 : Nat} (hX : X = ((p, l, e, R), (s, m, args, below, meth, c), (D, dA, A, nL, Q), ad0, N0)) {pc k n mc' ms' : Nat} {nx : zNx} {ls : zPL} {rest st9 : List Value} {av : Array Value} {w : zW} {ad : Nat → Nat} {H : Heap} {locs : List Loc} {la : Array Slot}
    (run : va_Run p l e R s m args below meth c H locs k n mc' ms' (F0 m pc la st9) (rest.map (zv ad)) (zQ D dA ad w (va_A (zw dA ad w) H.size) (fun o w' => match o with
    | .inl r => nx ls (r.toList ++ rest) w' (k + mc') (n + ms')
    | .inr _ => False) av) (va_A (zw dA ad w) H.size))
    (hn : ∀ ls st w k n, nx ls st w k n → zAt X (pc + 3) ls st w k n) (hsub : ∀ q, va_A (zw dA ad w) H.size q → A q) (hag : zag N0 w.length ad ad0) (hN : N0 ≤ w.length) (hS : va_S A s.heap H locs) (hl : zL ad la nL ls) : W p l e R s m args below meth c H locs k n Q (F0 m pc la st9) := by
  subst hX
  intro T hT X9
  obtain ⟨v, st₀, t, T', L, h0, X', hL, e1, e2, ⟨⟨r, w', hv, hΦ, hE⟩, hF⟩, stp⟩ := run T hT X9
  obtain ⟨-, -, k3⟩ := vx_keep h0 e1 hS (fun q _ h => hsub q h) hsub hL hF
  have hz := hn ls (r.toList ++ rest) w' (k + mc') (n + ms') hΦ ad T'.heap (locs ++ L) la (by rw [hE.1]; exact hag) (by rw [hE.1]; exact hN) (by rw [e1]; exact hE.2.1) (hE.2.2.weaken (fun _ q _ h => hsub q.1 h)) k3 hl
  obtain ⟨t2, a1, b1⟩ := hz T' rfl X'
  have hv2 : v = r.map (zv ad) := by
    have := hv
    injection this
  rw [z_ret, ← hv2] at a1
  exact ⟨t2, stp t2 a1, b1⟩
theorem zo_callSN {X : zM} {cc : ByteArray} {ws : List Cond} {own : String} {d MC MS : Nat} {pc : Nat} (C : zB X cc ws own d MC MS) {i na maxL : Nat} {y : MethodName} {wsy ws9 : List Cond} {bytes : ByteArray} {rt : Option FieldType} {host : String} (hd : decode cc pc = .ok (.invokestatic i, 3)) (hlk9 : Cond.methodLinkNest own i y host ∈ tables_1) (hG : GoodIn ws wsy) (hst : Cond.static y ∈ ws) (hi9 : Cond.initialized y.cls ∈ ws) (hw : wsy = Cond.code y bytes maxL rt :: ws9) (hdd : y.cls ≠ "java/lang/invoke/MethodHandle" ∧ y.cls ≠ "java/lang/invoke/VarHandle" ∧ (parseMethodDescriptor y.desc).map (fun d => d.parameters.length) = some na) (hm9 : maxL ≤ 45) : zOk X pc (oCallM X.1.2.1 y wsy na d MC MS) (pc + 3) := by
  obtain ⟨⟨p, l, e, R⟩, ⟨s, m, args, below, meth, c⟩, ⟨D, dA, A, nL, Q⟩, ad0, N0⟩ := X
  obtain ⟨hx, hb, hml, hts, hown, hK, hlk, hA, hZ, hR, hfl⟩ := C
  intro K nx hJ hn ls st w k n h ad H locs la hag hN hP hD hS hl
  unfold oCallM at h
  split at h
  · rename_i av rest hpop
    obtain ⟨hs9, d', mc', ms', ⟨r1, r2, r3⟩, hcan⟩ := h
    have hc9 := zShort_le hs9
    obtain ⟨a9, g1, g2, g3⟩ := zpop_eq _ _ _ _ _ hpop
    rw [List.append_nil] at g1
    subst g1
    subst g2
    have hsub := z_sub hA hD hS
    have run := va_runSN (p := p) (e := e) (meth := meth) (below := below) (As := av.map (zv ad)) (rest := rest.map (zv ad)) (locs := locs) (cells := k) (slots := n) (g := F0 m pc la (av.reverse.map (zv ad) ++ rest.map (zv ad))) ⟨hx, hb, hml, hown, hts⟩ (hcan D dA ad H.size) ⟨va_cnB na hts hG hw rfl rfl (hZ.2.2.2.2.2.2 _ _ _ _ hlk9) (hts _ hi9) hdd ⟨by show d' + 1 ≤ R.frames; omega, by show 8 + (maxL + 11) + 64 * d' ≤ R.locals; omega⟩, hts _ hst, trivial⟩ ⟨zPre_blind _ _ _ _ _ _, z_pre _ hK hZ hP hD hS hsub⟩ rfl (by rw [List.length_map]; exact g3) hl.2.1 (by simp) (by rw [zs_cat, show JFrame.monitorRoom (F0 m pc la (av.reverse.map (zv ad) ++ rest.map (zv ad))) = 0 from rfl]; omega) hd ⟨by omega, by omega⟩
    rw [List.map_append]
    exact zm_after rfl run hn hsub hag hN hS hl
  · exact h.elim
end ZZ5
