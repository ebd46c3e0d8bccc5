/-! THE LAW'S OWN STEPS: the script's reads, its end, making the two objects while the script stands in local 0 -/
section LO
def zNoX : zXH := fun _ _ _ _ _ _ => False
theorem zXok_no {X : zM} {pc MC MS : Nat} : zXok X pc MC MS zNoX := fun _ _ _ _ _ _ _ h => h.elim
/-- the script lies at ad0's place, outside the world; Q is the law's end -/
def Lc (X : zM) (L : Nat) (xs : Nat → Int32) : Prop := match X with
  | ((p, l, e, R), (s, m, args, below, meth, c), (D, dA, A, nL, Q), (ad0, N0)) => ∃ b : Nat, va_X b L xs s s.heap ∧ b < s.heap.size ∧ ¬ A b ∧ (∀ k, ad0 k = b) ∧ (∀ q, A q → s.heap.size ≤ q) ∧ args = #[Value.ref b] ∧ Q = lw_Z below #[Value.ref b] s ∧ R = room_1 ∧ meth.sig.returnType = ret
def oSLen (L : Nat) (_ : zK) (nx : zNx) (ls : zPL) (st : List Value) (w : zW) (k n : Nat) : Prop := match st with
  | .ref a :: st => (a = 1000 ∧ w.length ≤ 1000) ∧ nx ls (.int (Int32.ofNat L) :: st) w k n
  | _ => False
def oSLd (L : Nat) (xs : Nat → Int32) (_ : zK) (nx : zNx) (ls : zPL) (st : List Value) (w : zW) (k n : Nat) : Prop := match st with
  | .int i :: .ref a :: st => (vp_in i L ∧ a = 1000 ∧ w.length ≤ 1000) ∧ nx ls (.int (xs i.toNatClampNeg) :: st) w k n
  | _ => False
def oLend (_ : zK) (_ : zNx) (_ : zPL) (st : List Value) (_ : zW) (k n : Nat) : Prop := match st with
  | [.int v] => v = 1 ∧ k ≤ 600104 ∧ n ≤ 7301314
  | _ => False
theorem zo_SLen {X : zM} {cc : ByteArray} {ws : List Cond} {own : String} {d MC MS : Nat} {pc : Nat} (C : zB X cc ws own d MC MS) {L : Nat} {xs : Nat → Int32} (SL : Lc X L xs) (hd : decode cc pc = .ok (.arraylength, 1)) : zOk X pc (oSLen L) (pc + 1) := by
  obtain ⟨⟨p, l, e, R⟩, ⟨s, m, args, below, meth, c⟩, ⟨D, dA, A, nL, Q⟩, ad0, N0⟩ := X
  obtain ⟨hx, hb, hml, hts, hown, hK, hlk, hA, hZ, hR, hfl⟩ := C
  obtain ⟨b, s1, s2, s3, s4, -⟩ := SL
  intro K nx hJ hn ls st w k n h ad H locs la hag hN hP hD hS hl
  unfold oSLen at h
  split at h
  · rename_i a st
    obtain ⟨⟨rfl, h1⟩, h⟩ := h
    have ha : ad 1000 = b := (hag 1000 (Or.inr h1)).trans (s4 1000)
    have hz := hn _ _ _ _ _ h ad H locs la hag hN hP hD hS hl
    have := va_slen (rest := st.map (zv ad)) hx hb s1 s2 s3 hS hd hz
    rw [← ha] at this
    exact this
  · exact h.elim
theorem zo_SLd {X : zM} {cc : ByteArray} {ws : List Cond} {own : String} {d MC MS : Nat} {pc : Nat} (C : zB X cc ws own d MC MS) {L : Nat} {xs : Nat → Int32} (SL : Lc X L xs) (hd : decode cc pc = .ok (.iaload, 1)) : zOk X pc (oSLd L xs) (pc + 1) := by
  obtain ⟨⟨p, l, e, R⟩, ⟨s, m, args, below, meth, c⟩, ⟨D, dA, A, nL, Q⟩, ad0, N0⟩ := X
  obtain ⟨hx, hb, hml, hts, hown, hK, hlk, hA, hZ, hR, hfl⟩ := C
  obtain ⟨b, s1, s2, s3, s4, -⟩ := SL
  intro K nx hJ hn ls st w k n h ad H locs la hag hN hP hD hS hl
  unfold oSLd at h
  split at h
  · rename_i i a st
    obtain ⟨⟨h0, rfl, h1⟩, h⟩ := h
    have ha : ad 1000 = b := (hag 1000 (Or.inr h1)).trans (s4 1000)
    have hz := hn _ _ _ _ _ h ad H locs la hag hN hP hD hS hl
    have := va_sld (rest := st.map (zv ad)) hx hb s1 s2 s3 hS h0 hd hz
    rw [← ha] at this
    exact this
  · exact h.elim
theorem zo_Lend {X : zM} {ws : List Cond} {own : String} {d MC MS : Nat} {pc : Nat} (C : zB X code ws own d MC MS) {L : Nat} {xs : Nat → Int32} (SL : Lc X L xs) (hd : decode code pc = .ok (.ireturn, 1)) : zOk X pc oLend (pc + 1) := by
  obtain ⟨⟨p, l, e, R⟩, ⟨s, m, args, below, meth, c⟩, ⟨D, dA, A, nL, Q⟩, ad0, N0⟩ := X
  obtain ⟨hx, hb, hml, hts, hown, hK, hlk, hA, hZ, hR, hfl⟩ := C
  obtain ⟨b, s1, s2, s3, s4, s5, rfl, rfl, rfl, s6⟩ := SL
  intro K nx hJ hn ls st w k n h ad H locs la hag hN hP hD hS hl
  unfold oLend at h
  split at h
  · obtain ⟨rfl, h1, h2⟩ := h
    refine va_forget (fun q hq => s5 _ (hS.2.2 q hq)) (W.widen h1 h2 ?_)
    exact lw_ret (Drawn.sameBut.refl s.drawn lw_cs) hx hb s6 hlk hd
  · exact h.elim
/-! with the script in a local -/
def zlv (m : Nat) : Option Value → Bool
  | some (.ref j) => Nat.blt j m || Nat.ble 1000 j
  | _ => true
theorem zL_ag2 {ad ad' : Nat → Nat} {m : Nat} {la : Array Slot} {nL : Nat} {ls : zPL} (ha : ∀ j : Nat, (j < m ∨ 1000 ≤ j) → ad' j = ad j) (h : zL ad la nL ls) (hs : ls.all (zlv m) = true) : zL ad' la nL ls := by
  refine ⟨h.1, h.2.1, h.2.2.1, fun r hr => ?_⟩
  obtain ⟨k, v, e1, e2⟩ := (zAs_mem _ r ls 0).mp hr
  refine h.2.2.2 r ((zAs_mem ad r ls 0).mpr ⟨k, v, e1, ?_⟩)
  have hv := List.all_eq_true.mp hs (some v) (List.mem_of_getElem? e1)
  rw [e2]
  cases v with
  | ref j =>
    have hv : (Nat.blt j m || Nat.ble 1000 j) = true := hv
    rw [Bool.or_eq_true] at hv
    have := ha j (hv.elim (fun q => Or.inl (Nat.le_of_ble_eq_true q)) (fun q => Or.inr (Nat.le_of_ble_eq_true q)))
    show (_, Value.ref (ad' j)) = (_, Value.ref (ad j))
    rw [this]
  | _ => rfl
def oNewL (ci N : Nat) (fs : List Value) (MC MS : Nat) (_ : zK) (nx : zNx) (ls : zPL) (st : List Value) (w : zW) (k n : Nat) : Prop := (w.length < 1000 ∧ zclW w.length w ∧ ls.all (zlv w.length) = true ∧ zclS w.length st ∧ k + 1 ≤ MC ∧ n + N ≤ MS) ∧ nx ls (.ref w.length :: st) (w ++ [.inr (ci, fs)]) (k + 1) (n + N)
theorem zup_lt2 {ad : Nat → Nat} {n q : Nat} (hn : n < 1000) : ∀ j : Nat, (j < n ∨ 1000 ≤ j) → zup ad n q j = ad j := fun j h => by
  have : j ≠ n := by omega
  simp [zup, this]
theorem zo_newL {X : zM} {cc : ByteArray} {ws : List Cond} {own : String} {d MC MS : Nat} {pc : Nat} (C : zB X cc ws own d MC MS) {i ci N : Nat} {T : u_T} {Cn : String} {fs : List Value} {tf : Nat → FieldType} (hd : decode cc pc = .ok (.new i, 3)) (hc : vwCl[ci]? = some (Cn, T, N)) (hin : ∀ w ∈ u_ws Cn T N, w ∈ ws) (hty : ∀ k, k < N → parseFieldDescriptor (T k).2.2.1 = some (tf k)) (h1 : Cond.classLink own i Cn ∈ ws) (h2 : Cond.instantiable Cn N ∈ ws) (h3 : Cond.initialized Cn ∈ ws) (hfs : ∀ j, j < N → defaultValue (tf j) = vp_V fs j) (hz : ∀ f : Nat → Nat, fs.map (zv f) = fs) : zOk X pc (oNewL ci N fs MC MS) (pc + 3) := by
  obtain ⟨⟨p, l, e, R⟩, ⟨s, m, args, below, meth, c⟩, ⟨D, dA, A, nL, Q⟩, ad0, N0⟩ := X
  obtain ⟨hx, hb, hml, hts, hown, hK, hlk, hA, hZ, hR, hfl⟩ := C
  intro K nx hJ hn ls st w k n h ad H locs la hag hN hP hD hS hl
  unfold oNewL at h
  obtain ⟨⟨c0, c1, c2, c3, c4, c5⟩, h⟩ := h
  refine va_new hx hb hts hin tf hty hown (hts _ h1) (hts _ h2) (hts _ h3) hK hP hD hS hA hc hfs (by omega) (by omega) hd (fun q H1 hP1 hD1 hS1 => ?_)
  · have hag1 : zag N0 (w ++ [(.inr (ci, fs) : zE)]).length (zup ad w.length q) ad0 := by
      intro j hj
      rw [List.length_append] at hj
      have hj' : j < N0 ∨ w.length + 1 ≤ j := hj
      have : j ≠ w.length := by omega
      rw [show zup ad w.length q j = ad j by simp [zup, this]]
      exact hag j (by omega)
    have hl1 : zL (zup ad w.length q) la nL ls := zL_ag2 (zup_lt2 c0) hl c2
    have hw1 : zw dA (zup ad w.length q) (w ++ [(.inr (ci, fs) : zE)]) = zw dA ad w ++ [(q, .inr (ci, fs))] := by
      rw [zw_app, zw_ag zup_lt (Nat.le_refl _) c1, zup_at]
      show _ ++ [(q, (.inr (ci, fs.map (zv _)) : va_E))] = _
      rw [hz]
    rw [← hw1] at hP1 hD1
    have := hn _ _ _ _ _ h (zup ad w.length q) H1 locs la hag1 (by rw [List.length_append]; omega) hP1 hD1 hS1 hl1
    rw [List.map_cons, zs_ag zup_lt c3] at this
    rw [show zv (zup ad w.length q) (.ref w.length) = .ref q from congrArg Value.ref zup_at] at this
    exact this
def oCallIL (l : Launch) (y : MethodName) (wsy : List Cond) (na : Nat) (d MC MS : Nat) (_ : zK) (nx : zNx) (ls : zPL) (st : List Value) (w : zW) (k n : Nat) : Prop := match zpop na st [] with
  | some (av, rest) => (zShort rest = true ∧ (∃ a as, av = Value.ref a :: as) ∧ zclW w.length w ∧ ls.all (zlv w.length) = true ∧ zclS w.length rest) ∧ ∃ d' mc' ms', (d' + 1 ≤ d ∧ k + mc' ≤ MC ∧ n + ms' ≤ MS) ∧ CanI l y wsy d' mc' ms' av w (fun w' => w'.length ≤ 1000 ∧ nx ls rest w' (k + mc') (n + ms'))
  | none => False
theorem zo_callIL {X : zM} {cc : ByteArray} {ws : List Cond} {own : String} {d MC MS : Nat} {pc : Nat} (C : zB X cc ws own d MC MS) {i na maxL : Nat} {y : MethodName} {wsy ws9 : List Cond} {bytes : ByteArray} (hd : decode cc pc = .ok (.invokespecial i, 3)) (hyn : y.name = "<init>") (hlk9 : Cond.methodLink own i y ∈ ws) (hG : GoodIn ws wsy) (hst : Cond.instanceMethod y ∈ ws) (hi9 : Cond.initialized y.cls ∈ ws) (hw : wsy = Cond.code y bytes maxL none :: ws9) (hdd : y.cls ≠ "java/lang/invoke/MethodHandle" ∧ y.cls ≠ "java/lang/invoke/VarHandle" ∧ (parseMethodDescriptor y.desc).map (fun d => d.parameters.length) = some na) (hm9 : maxL ≤ 45) : zOk X pc (oCallIL X.1.2.1 y wsy (na + 1) d MC MS) (pc + 3) := by
  obtain ⟨⟨p, l, e, R⟩, ⟨s, m, args, below, meth, c⟩, ⟨D, dA, A, nL, Q⟩, ad0, N0⟩ := X
  obtain ⟨hx, hb, hml, hts, hown, hK, hlk, hA, hZ, hR, hfl⟩ := C
  intro K nx hJ hn ls st w k n h ad H locs la hag hN hP hD hS hl
  unfold oCallIL at h
  split at h
  · rename_i av rest hpop
    obtain ⟨⟨hs9, ⟨a, as, hav⟩, hcw, hcl, hcs⟩, d', mc', ms', ⟨r1, r2, r3⟩, hcan⟩ := h
    have hc9 := zShort_le hs9
    obtain ⟨a9, g1, g2, g3⟩ := zpop_eq _ _ _ _ _ hpop
    rw [List.append_nil] at g1
    subst g1
    subst g2
    have hsub := z_sub hA hD hS
    subst hav
    have run := va_runI (p := p) (e := e) (meth := meth) (below := below) (b := ad a) (As := as.map (zv ad)) (rest := rest.map (zv ad)) (locs := locs) (cells := k) (slots := n) (g := F0 m pc la ((Value.ref a :: as).reverse.map (zv ad) ++ rest.map (zv ad))) ⟨hx, hb, hml, hown, hts⟩ (hcan D dA ad H.size) (cwI na hts hG hw rfl rfl (hts _ hi9) (hts _ hlk9) (hts _ hst) hyn hdd ⟨by show d' + 1 ≤ R.frames; omega, by show 8 + (maxL + 11) + 64 * d' ≤ R.locals; omega⟩) ⟨zPre_blind _ _ _ _ _ _, z_pre _ hK hZ hP hD hS hsub⟩ rfl (by rw [List.length_map]; simpa using g3) hl.2.1 (by simp [zv]) (by rw [zs_cat, show JFrame.monitorRoom (F0 m pc la ((Value.ref a :: as).reverse.map (zv ad) ++ rest.map (zv ad))) = 0 from rfl]; omega) hd ⟨by omega, by omega⟩
    rw [List.map_append]
    intro T hT X9
    obtain ⟨v, st₀, t, T', L, h0, X', hL, e1, e2, ⟨⟨w', ad', hv, ⟨hw9, hΦ⟩, hlen, hz, hP', hD'⟩, hF⟩, stp⟩ := run T hT X9
    obtain ⟨-, -, k3⟩ := vx_keep h0 e1 hS (fun q _ h => hsub q h) hsub hL hF
    have hadk : ∀ j : Nat, j < w.length → ad' j = ad j := fun j hj => hz j (Or.inl hj)
    have hadk2 : ∀ j : Nat, (j < w.length ∨ 1000 ≤ j) → ad' j = ad j := fun j hj => hz j (hj.elim Or.inl (fun q => Or.inr (Nat.le_trans hw9 q)))
    have hz2 := hn ls rest w' (k + mc') (n + ms') hΦ ad' T'.heap (locs ++ L) la (fun j hj => (hz j (hj.elim (fun q => Or.inl (Nat.lt_of_lt_of_le q hN)) (fun q => Or.inr q))).trans (hag j (hj.elim Or.inl (fun q => Or.inr (Nat.le_trans hlen q))))) (Nat.le_trans hN hlen) (by rw [e1]; exact hP') (hD'.weaken (fun _ q _ h => hsub q.1 h)) k3 (zL_ag2 hadk2 hl hcl)
    obtain ⟨t2, a1, b1⟩ := hz2 T' rfl X'
    have hv2 : v = none := by
      have := hv
      injection this
    subst hv2
    rw [zs_ag hadk hcs] at a1
    exact ⟨t2, stp t2 a1, b1⟩
  · exact h.elim
end LO
