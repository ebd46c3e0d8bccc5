/-! p29, METHODS THAT GET THE SCRIPT: its cell stands outside the world (place 1000), and is read alone -/
section CS1
/-- the script lies at ad0's place 1000, outside the world -/
def Sc (X : zM) (L : Nat) (xs : Nat → Int32) : Prop := match X with
  | ((p, l, e, R), (s, m, args, below, meth, c), (D, dA, A, nL, Q), (ad0, N0)) => ∃ b : Nat, va_X b L xs s s.heap ∧ b < s.heap.size ∧ ¬ A b ∧ ad0 1000 = b
theorem Sc_of {X : zM} {L : Nat} {xs : Nat → Int32} (h : Lc X L xs) : Sc X L xs := by
  obtain ⟨⟨p, l, e, R⟩, ⟨s, m, args, below, meth, c⟩, ⟨D, dA, A, nL, Q⟩, ad0, N0⟩ := X
  obtain ⟨b, s1, s2, s3, s4, -⟩ := h
  exact ⟨b, s1, s2, s3, s4 1000⟩
def zPreS (L : Nat) (xs : Nat → Int32) (D : va_G) (dA : Nat → ClassId) (ad : Nat → Nat) (w : zW) (sz : Nat) : State → Prop := fun U => zPre D dA ad w sz U ∧ va_X (ad 1000) L xs U U.heap ∧ ad 1000 < sz ∧ ¬ va_A (zw dA ad w) sz (ad 1000)
theorem zPreS_blind (L : Nat) (xs : Nat → Int32) (av : List Value) (D : va_G) (dA : Nat → ClassId) (ad : Nat → Nat) (w : zW) (sz : Nat) : FrameBlind (va_Pc av (zPreS L xs D dA ad w sz)) := by
  intro a U g mk h
  obtain ⟨h0, ⟨h1, h2, h3, h4, h5⟩, h6, h7⟩ := h
  exact ⟨h0, ⟨h1, h2, va_K.moved (u := U) (U := U.calling g mk a) (Vm.Alike.refl U.vm) h3, h4, h5.calling g mk a⟩, va_X.moved (u := U) (U := U.calling g mk a) (Vm.Alike.refl U.vm) h6, h7⟩
/-- the contract of a method that gets the script -/
def CanS (l : Launch) (y : MethodName) (ws : List Cond) (d mc ms : Nat) (av : List Value) (w : zW) (L : Nat) (xs : Nat → Int32) (Φ : zO → zW → Prop) : Prop :=
  ∀ (D : va_G) (dA : Nat → ClassId) (ad : Nat → Nat) (sz : Nat), vx_Met l y ws (zRoom d mc ms) (va_Pc (av.map (zv ad)) (zPreS L xs D dA ad w sz)) (zQ D dA ad w (va_A (zw dA ad w) sz) Φ) (zXc D dA ad w (va_A (zw dA ad w) sz) Φ) mc ms (va_A (zw dA ad w) sz)
theorem CanS.mono {l : Launch} {y : MethodName} {ws : List Cond} {d mc ms : Nat} {av : List Value} {w : zW} {L : Nat} {xs : Nat → Int32} {Φ Ψ : zO → zW → Prop} (h : CanS l y ws d mc ms av w L xs Φ) (hi : ∀ o w', Φ o w' → Ψ o w') : CanS l y ws d mc ms av w L xs Ψ := fun D dA ad sz =>
  vx_mono (h D dA ad sz) (fun _ _ h => h) (fun _ _ _ _ _ ⟨⟨r, w', h1, h2, h3⟩, h4⟩ => ⟨⟨r, w', h1, hi _ _ h2, h3⟩, h4⟩) (fun _ _ _ _ _ ⟨⟨w', h2, h3⟩, h4⟩ => ⟨⟨w', hi _ _ h2, h3⟩, h4⟩) (fun _ h => h)
theorem zMethS {l : Launch} {y : MethodName} {ws ws' : List Cond} {cc : ByteArray} {maxL d mc ms : Nat} {ret : Option FieldType} {av : List Value} {w : zW} {L : Nat} {xs : Nat → Int32} {Φ : zO → zW → Prop} {lv : zPL} (hfl : l.stackTraces = false) (hy : plainName y.cls = true) (hw : ws = Cond.code y cc maxL ret :: ws') (hlen : lv.length = maxL)
    (hlv : ∀ ad : Nat → Nat, lv_args 0 (av.map (zv ad)) = zAs ad 0 lv) (hsl : ∀ ad : Nat → Nat, (lg_sl (av.map (zv ad))).length ≤ maxL)
    (body : ∀ X : zM, X.1.2.1 = l → zB X cc ws y.cls d mc ms → zM9 X ret w mc ms Φ → zEx X w mc ms Φ → Sc X L xs → zAt X 0 lv [] w 0 0) : CanS l y ws d mc ms av w L xs Φ := by
  intro D dA ad sz
  refine vx_ofW (cc := cc) (maxL := maxL) (ret := ret) hy hw ?_
  intro p e s m args below meth c s₁ B hml hnt hv
  obtain ⟨rfl, ⟨rfl, h1, h2, h3, h4⟩, h5, h6, h7⟩ := hv
  have h := body ((p, l, e, (headSpec ws (zRoom d mc ms)).room), (s, m, ((av.map (zv ad)).toArray), below, meth, c), (D, dA, va_A (zw dA ad w) s.heap.size, maxL, vx_MQ below (zQ D dA ad w (va_A (zw dA ad w) s.heap.size) Φ) (zXc D dA ad w (va_A (zw dA ad w) s.heap.size) Φ) (av.map (zv ad)).toArray s mc ms (va_A (zw dA ad w) s.heap.size)), (ad, w.length)) rfl
    ⟨B.exec, B.bytes, hml, atoms_spec (ws := ws) B.pre, findClass_of_methodNamed B.named, h2, B.notSynchronized, fun q hq => Or.inr hq, h4, ⟨Nat.le_refl _, Nat.le_refl _, Nat.le_refl _, Nat.le_refl _⟩, hfl⟩
    ⟨B.returns, rfl, fun H locs g k => vx_ret k⟩ ⟨hnt, rfl, rfl⟩ ⟨_, h5, h6, h7, rfl⟩
  have hl := lv_entry (av.map (zv ad)) (n := maxL) (hsl ad)
  rw [hlv ad] at hl
  rw [lg_entry_eq]
  exact h ad s.heap [] _ (fun _ _ => rfl) (Nat.le_refl _) h1 h3.self va_S.rf ⟨hlen, hl⟩
theorem zo_SLenS {X : zM} {cc : ByteArray} {ws : List Cond} {own : String} {d MC MS : Nat} {pc : Nat} (C : zB X cc ws own d MC MS) {L : Nat} {xs : Nat → Int32} (SL : Sc X L xs) (hd : decode cc pc = .ok (.arraylength, 1)) : zOk X pc (oSLen L) (pc + 1) := by
  obtain ⟨⟨p, l, e, R⟩, ⟨s, m, args, below, meth, c⟩, ⟨D, dA, A, nL, Q⟩, ad0, N0⟩ := X
  obtain ⟨hx, hb, hml, hts, hown, hK, hlk, hA, hZ, hR, hfl⟩ := C
  obtain ⟨b, s1, s2, s3, s4⟩ := SL
  intro K nx hJ hn ls st w k n h ad H locs la hag hN hP hD hS hl
  unfold oSLen at h
  split at h
  · rename_i a st
    obtain ⟨⟨rfl, h1⟩, h⟩ := h
    have ha : ad 1000 = b := (hag 1000 (Or.inr h1)).trans s4
    have hz := hn _ _ _ _ _ h ad H locs la hag hN hP hD hS hl
    have := va_slen (rest := st.map (zv ad)) hx hb s1 s2 s3 hS hd hz
    rw [← ha] at this
    exact this
  · exact h.elim
theorem zo_SLdS {X : zM} {cc : ByteArray} {ws : List Cond} {own : String} {d MC MS : Nat} {pc : Nat} (C : zB X cc ws own d MC MS) {L : Nat} {xs : Nat → Int32} (SL : Sc X L xs) (hd : decode cc pc = .ok (.iaload, 1)) : zOk X pc (oSLd L xs) (pc + 1) := by
  obtain ⟨⟨p, l, e, R⟩, ⟨s, m, args, below, meth, c⟩, ⟨D, dA, A, nL, Q⟩, ad0, N0⟩ := X
  obtain ⟨hx, hb, hml, hts, hown, hK, hlk, hA, hZ, hR, hfl⟩ := C
  obtain ⟨b, s1, s2, s3, s4⟩ := SL
  intro K nx hJ hn ls st w k n h ad H locs la hag hN hP hD hS hl
  unfold oSLd at h
  split at h
  · rename_i i a st
    obtain ⟨⟨h0, rfl, h1⟩, h⟩ := h
    have ha : ad 1000 = b := (hag 1000 (Or.inr h1)).trans s4
    have hz := hn _ _ _ _ _ h ad H locs la hag hN hP hD hS hl
    have := va_sld (rest := st.map (zv ad)) hx hb s1 s2 s3 hS h0 hd hz
    rw [← ha] at this
    exact this
  · exact h.elim
/-- a static call of a method that gets the script, and always returns -/
def oCallX (l : Launch) (y : MethodName) (wsy : List Cond) (na : Nat) (d MC MS : Nat) (L : Nat) (xs : Nat → Int32) (_ : zK) (nx : zNx) (ls : zPL) (st : List Value) (w : zW) (k n : Nat) : Prop := match zpop na st [] with
  | some (av, rest) => zShort rest = true ∧ w.length ≤ 1000 ∧ ∃ d' mc' ms', (d' + 1 ≤ d ∧ k + mc' ≤ MC ∧ n + ms' ≤ MS) ∧ CanS l y wsy d' mc' ms' av w L xs (fun o w' => match o with
      | .inl r => nx ls (r.toList ++ rest) w' (k + mc') (n + ms')
      | .inr _ => False)
  | none => False
theorem zo_callX {X : zM} {cc : ByteArray} {ws : List Cond} {own : String} {d MC MS : Nat} {pc : Nat} (C : zB X cc ws own d MC MS) {L : Nat} {xs : Nat → Int32} (SL : Sc X L xs) {i na maxL : Nat} {y : MethodName} {wsy ws9 : List Cond} {bytes : ByteArray} {rt : Option FieldType} (hd : decode cc pc = .ok (.invokestatic i, 3)) (hG : GoodIn ws (va_wsS own i y wsy)) (hw : wsy = Cond.code y bytes maxL rt :: ws9) (hdd : y.cls ≠ "java/lang/invoke/MethodHandle" ∧ y.cls ≠ "java/lang/invoke/VarHandle" ∧ (parseMethodDescriptor y.desc).map (fun d => d.parameters.length) = some na) (hm9 : maxL ≤ 45) : zOk X pc (oCallX X.1.2.1 y wsy na d MC MS L xs) (pc + 3) := by
  obtain ⟨⟨p, l, e, R⟩, ⟨s, m, args, below, meth, c⟩, ⟨D, dA, A, nL, Q⟩, ad0, N0⟩ := X
  obtain ⟨hx, hb, hml, hts, hown, hK, hlk, hA, hZ, hR, hfl⟩ := C
  obtain ⟨b, s1, s2, s3, s4⟩ := SL
  intro K nx hJ hn ls st w k n h ad H locs la hag hN hP hD hS hl
  unfold oCallX at h
  split at h
  · rename_i av rest hpop
    obtain ⟨hs9, hw9, d', mc', ms', ⟨r1, r2, r3⟩, hcan⟩ := h
    have hc9 := zShort_le hs9
    obtain ⟨a9, g1, g2, g3⟩ := zpop_eq _ _ _ _ _ hpop
    rw [List.append_nil] at g1
    subst g1
    subst g2
    have hsub := z_sub hA hD hS
    have ha : ad 1000 = b := (hag 1000 (Or.inr hw9)).trans s4
    have hpre : ∀ U : State, U.heap = H → s.WarmedH U.vm → va_Pc (av.map (zv ad)) (zPreS L xs D dA ad w H.size) (av.map (zv ad)).toArray U := fun U hU hW => by
      obtain ⟨p1, p2⟩ := z_pre (av.map (zv ad)) hK hZ hP hD hS hsub U hU hW
      refine ⟨p1, p2, ?_, ?_, ?_⟩
      · rw [ha, hU]
        exact va_X.moved hW.alike (s1.kept (hS.2.1 b s2 s3))
      · rw [ha]
        exact Nat.lt_of_lt_of_le s2 hS.1
      · rw [ha]
        exact fun hq => s3 (hsub b hq)
    have ok : ∀ w ∈ va_wsS own i y wsy, w.before args s = true := fun w h => hts w (hG w h).1
    have hG2 : GoodIn ws wsy := fun w h => hG w (List.mem_append_right _ h)
    have run := vx_runS (p := p) (e := e) (meth := meth) (below := below) (As := av.map (zv ad)) (rest := rest.map (zv ad)) (locs := locs) (cells := k) (slots := n) (g := F0 m pc la (av.reverse.map (zv ad) ++ rest.map (zv ad))) ⟨hx, hb, hml, hown, hts⟩ (hcan D dA ad H.size) ⟨callB_of na hts hG2 hw rfl rfl (ok _ (by simp [va_wsS])) (ok _ (by simp [va_wsS])) hdd ⟨by show d' + 1 ≤ R.frames; omega, by show 8 + (maxL + 11) + 64 * d' ≤ R.locals; omega⟩, ok _ (by simp [va_wsS])⟩ ⟨zPreS_blind _ _ _ _ _ _ _ _, hpre⟩ rfl (by rw [List.length_map]; exact g3) hl.2.1 (by simp) (by rw [zs_cat, show JFrame.monitorRoom (F0 m pc la (av.reverse.map (zv ad) ++ rest.map (zv ad))) = 0 from rfl]; omega) hd ⟨by omega, by omega⟩
    rw [List.map_append]
    intro T hT X9
    rcases run T hT X9 with ⟨v, st₀, t, T', L9, h0, X', hL, e1, e2, ⟨⟨r, w', hv, hΦ, hE⟩, hF⟩, stp⟩ | ⟨q, st₀, t, T', L9, E, ce, h0, X', hL, e1, e2, ⟨⟨w', hΦ, hE⟩, hF⟩, hce, hcv, hcl, stp⟩
    · obtain ⟨-, -, k3⟩ := vx_keep h0 e1 hS (fun q _ h => hsub q h) hsub hL hF
      have hz := hn ls (r.toList ++ rest) w' (k + mc') (n + ms') hΦ ad T'.heap (locs ++ L9) la (by rw [hE.1]; exact hag) (by rw [hE.1]; exact hN) (by rw [e1]; exact hE.2.1) (hE.2.2.weaken (fun _ q _ h => hsub q.1 h)) k3 hl
      obtain ⟨t2, a1, b1⟩ := hz T' rfl X'
      have hv2 : v = r.map (zv ad) := by
        have := hv
        injection this
      rw [z_ret, ← hv2] at a1
      exact ⟨t2, stp t2 a1, b1⟩
    · exact hΦ.elim
  · exact h.elim
end CS1
