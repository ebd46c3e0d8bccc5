/-! CONSTRUCTORS: the frame; a call by a plain link; making of arrays and objects, with the closedness reckoned -/
section CI3
def zrg : Nat → Nat → List Nat
  | _, 0 => []
  | s, n + 1 => s :: zrg (s + 1) n
theorem zrg_len : ∀ (n s : Nat), (zrg s n).length = n
  | 0, _ => rfl
  | n + 1, s => by
    show (zrg (s + 1) n).length + 1 = n + 1
    rw [zrg_len n (s + 1)]
theorem zrg_get : ∀ (n s i : Nat), i < n → (zrg s n)[i]? = some (s + i)
  | 0, _, _, h => absurd h (Nat.not_lt_zero _)
  | n + 1, s, 0, _ => rfl
  | n + 1, s, i + 1, h => by
    show (zrg (s + 1) n)[i]? = some (s + (i + 1))
    rw [zrg_get n (s + 1) i (by omega)]
    congr 1
    omega
theorem zix_out {ix : List Nat} {j : Nat} (h : ix.length ≤ j) : zix ix j = 0 := by
  unfold zix
  rw [List.getD_eq_getElem?_getD, List.getElem?_eq_none h]
  rfl
def zix9 (ix : List Nat) (N M : Nat) : List Nat := ix ++ zrg N (M - ix.length)
def zapp (w : zW) (ix : List Nat) (lw : zW) : zW := zput w ix lw (zrE (zix9 ix w.length lw.length)) ++ (lw.drop ix.length).map (zrE (zix9 ix w.length lw.length))
theorem CanI.fe {l : Launch} {y : MethodName} {ws : List Cond} {d mc ms : Nat} {la av : List Value} {lw w lw' W' : zW} (h : CanI l y ws d mc ms la lw (fun w' => w' = lw')) (ix : List Nat) (hi : zIn ix lw w) (hc : zclW w.length w) (h0 : 0 < w.length) (hav : av = la.map (zv (zix ix))) (hW : zapp w ix lw' = W') : CanI l y ws d mc ms av w (fun w' => w' = W') := by
  subst hav
  subst hW
  obtain ⟨hnd, hlen, hin⟩ := hi
  intro D dA ad sz
  have hav : (la.map (zv (zix ix))).map (zv ad) = la.map (zv (fun j => ad (zix ix j))) := by
    rw [List.map_map]
    exact List.map_congr_left (fun v _ => zv_zv ad ix v)
  rw [hav]
  have hat : ∀ (j : Nat) (q : Nat × va_E), (zw dA (fun j => ad (zix ix j)) lw)[j]? = some q → ∃ k : Nat, ix[j]? = some k ∧ (zw dA ad w)[k]? = some q := by
    intro j q hq
    obtain ⟨e, he, rfl⟩ := zw_of hq
    have hj : j < ix.length := by rw [← hlen]; exact (List.getElem?_eq_some_iff.mp he).1
    refine ⟨ix[j], List.getElem?_eq_getElem hj, ?_⟩
    have h1 := hin j ix[j] e (List.getElem?_eq_getElem hj) he
    rw [zw_at h1, ze_ze]
    have h2 : zix ix j = ix[j] := zix_get (List.getElem?_eq_getElem hj)
    show some (ad ix[j], _) = some (ad (zix ix j), _)
    rw [h2]
  have hsub : ∀ q, va_A (zw dA (fun j => ad (zix ix j)) lw) sz q → va_A (zw dA ad w) sz q := by
    intro q hq
    rcases hq with ⟨j, e, hj⟩ | hq
    · obtain ⟨k, -, hk⟩ := hat j _ hj
      exact Or.inl ⟨k, e, hk⟩
    · exact Or.inr hq
  have hinj : ∀ (j1 j2 k : Nat), ix[j1]? = some k → ix[j2]? = some k → j1 = j2 := by
    intro j1 j2 k h1 h2
    have l1 := (List.getElem?_eq_some_iff.mp h1).1
    exact (List.getElem?_inj l1 hnd).mp (h1.trans h2.symm)
  have hixw : ∀ (j k : Nat), ix[j]? = some k → k < w.length := by
    intro j k hj
    have hjl : j < lw.length := by rw [hlen]; exact (List.getElem?_eq_some_iff.mp hj).1
    exact (List.getElem?_eq_some_iff.mp (hin j k _ hj (List.getElem?_eq_getElem hjl))).1
  refine met_mono (h D dA (fun j => ad (zix ix j)) sz) ?_ ?_ hsub
  · rintro a s ⟨h0, p1, p2, p3, p4, p5⟩
    refine ⟨h0, p1, fun j q hq => ?_, p3, ⟨fun j1 j2 q1 q2 h1 h2 h12 => ?_, fun _ _ _ => trivial⟩, ?_⟩
    · obtain ⟨k, -, hk⟩ := hat j q hq
      exact p2 k q hk
    · obtain ⟨k1, g1, hk1⟩ := hat j1 q1 h1
      obtain ⟨k2, g2, hk2⟩ := hat j2 q2 h2
      have := p4.1 k1 k2 q1 q2 hk1 hk2 h12
      subst this
      exact hinj _ _ _ g1 g2
    · obtain ⟨z1, z2, z3⟩ := p5
      exact ⟨z1.narrow hsub, z2.narrow hsub, z3⟩
  · rintro a s o t ⟨h0', hp⟩ ⟨⟨w1, ad1, ho, hw1, hl1, hag1, hP1, hD1⟩, hF⟩
    subst hw1
    obtain ⟨p1, p2, p3, p4, p5⟩ := hp
    have hl2 : ix.length ≤ w1.length := by rw [← hlen]; exact hl1
    let I9 : List Nat := zix9 ix w.length w1.length
    have hI9 : I9.length = w1.length := by
      show (ix ++ zrg w.length (w1.length - ix.length)).length = w1.length
      rw [List.length_append, zrg_len]
      omega
    have hIa : ∀ j k : Nat, ix[j]? = some k → I9[j]? = some k := by
      intro j k hj
      have hjl := (List.getElem?_eq_some_iff.mp hj).1
      show (ix ++ zrg w.length (w1.length - ix.length))[j]? = some k
      rw [List.getElem?_append_left hjl]
      exact hj
    have hIb : ∀ j : Nat, ix.length ≤ j → j < w1.length → I9[j]? = some (w.length + (j - ix.length)) := by
      intro j h1 h2
      show (ix ++ zrg w.length (w1.length - ix.length))[j]? = _
      rw [List.getElem?_append_right h1]
      exact zrg_get _ _ _ (by omega)
    let ad2 : Nat → Nat := fun k => if k < w.length then ad k else if k < w.length + (w1.length - ix.length) then ad1 (ix.length + (k - w.length)) else ad k
    have hold : ∀ k : Nat, k < w.length → ad2 k = ad k := fun k hk => if_pos hk
    have hnew : ∀ i : Nat, i < w1.length - ix.length → ad2 (w.length + i) = ad1 (ix.length + i) := by
      intro i hi
      show (if w.length + i < w.length then _ else if w.length + i < w.length + (w1.length - ix.length) then _ else _) = _
      rw [if_neg (by omega), if_pos (by omega)]
      congr 2
      omega
    have hz : ∀ j : Nat, ad2 (zix I9 j) = ad1 j := by
      intro j
      by_cases hj : j < ix.length
      · have hjx := List.getElem?_eq_getElem hj
        rw [zix_get (hIa j _ hjx), hold _ (hixw _ _ hjx), hag1 j (Or.inl (by rw [hlen]; exact hj))]
        show ad ix[j] = ad (zix ix j)
        rw [zix_get hjx]
      · by_cases hj2 : j < w1.length
        · rw [zix_get (hIb j (by omega) hj2), hnew _ (by omega)]
          congr 1
          omega
        · rw [zix_out (by omega), hold 0 h0, hag1 j (Or.inr (by omega))]
          show ad 0 = ad (zix ix j)
          rw [zix_out (by omega)]
    have hze : ∀ e : zE, ze dA ad2 (zrE I9 e) = ze dA ad1 e := by
      intro e
      rw [ze_ze]
      have : (fun j => ad2 (zix I9 j)) = ad1 := funext hz
      rw [this]
    have hWl : (zapp w ix w1).length = w.length + (w1.length - ix.length) := by
      show (zput w ix w1 _ ++ (w1.drop ix.length).map _).length = _
      rw [List.length_append, zput_len, List.length_map, List.length_drop]
    have hcell : ∀ (k : Nat) (q : Nat × va_E), (zw dA ad2 (zapp w ix w1))[k]? = some q → q.1 = ad2 k ∧ ((∃ j : Nat, I9[j]? = some k ∧ (zw dA ad1 w1)[j]? = some q) ∨ (k < w.length ∧ k ∉ ix ∧ (zw dA ad w)[k]? = some q)) := by
      intro k q hq
      obtain ⟨e, he, rfl⟩ := zw_of hq
      refine ⟨rfl, ?_⟩
      have he : (zput w ix w1 (zrE I9) ++ (w1.drop ix.length).map (zrE I9))[k]? = some e := he
      by_cases hk : k < w.length
      · rw [List.getElem?_append_left (by rw [zput_len]; exact hk)] at he
        by_cases hki : k ∈ ix
        · left
          obtain ⟨j, hj⟩ := List.getElem?_of_mem hki
          have hjx := (List.getElem?_eq_some_iff.mp hj).1
          have hjl : j < w1.length := by omega
          have h1 := zput_in ix w w1 (zrE I9) j k w1[j] hnd hj (List.getElem?_eq_getElem hjl) hk
          rw [he] at h1
          refine ⟨j, hIa j k hj, ?_⟩
          rw [zw_at (List.getElem?_eq_getElem hjl), Option.some.inj h1, hze, ← hz j, zix_get (hIa j k hj)]
        · right
          refine ⟨hk, hki, ?_⟩
          rw [zput_out ix w w1 (zrE I9) k hki] at he
          rw [zw_at he, hold k hk, ze_ag hold (hc e (List.mem_of_getElem? he))]
      · left
        rw [List.getElem?_append_right (by rw [zput_len]; omega), zput_len, List.getElem?_map, List.getElem?_drop] at he
        cases hx : w1[ix.length + (k - w.length)]? with
        | none => rw [hx] at he; cases he
        | some e0 =>
          rw [hx] at he
          have hee : zrE I9 e0 = e := Option.some.inj he
          subst hee
          have hjl := (List.getElem?_eq_some_iff.mp hx).1
          have hI := hIb (ix.length + (k - w.length)) (by omega) hjl
          have hkk : w.length + (ix.length + (k - w.length) - ix.length) = k := by omega
          rw [hkk] at hI
          refine ⟨ix.length + (k - w.length), hI, ?_⟩
          rw [zw_at hx, hze, ← hz, zix_get hI]
    have hno : ∀ (k : Nat) (q : Nat × va_E), k ∉ ix → (zw dA ad w)[k]? = some q → ¬ va_A (zw dA (fun j => ad (zix ix j)) lw) sz q.1 := by
      rintro k q hk hkq (⟨j, e, hj⟩ | hge)
      · obtain ⟨k', hk', hk2⟩ := hat j _ hj
        have := p4.1 k k' q (q.1, e) hkq hk2 rfl
        subst this
        exact hk (List.mem_of_getElem? hk')
      · have := (p2 k q hkq).lt
        omega
    refine ⟨⟨zapp w ix w1, ad2, ho, rfl, by rw [hWl]; omega, fun k hk => ?_, fun k q hq => ?_, fun k1 k2 q1 q2 h1 h2 h12 => ?_, fun k q hq => ?_⟩, hF.1, fun q hq hA => hF.2 q hq (fun z => hA (hsub q z))⟩
    · rw [hWl] at hk
      show (if k < w.length then _ else if k < w.length + (w1.length - ix.length) then _ else _) = _
      rcases hk with hk | hk
      · rw [if_pos hk]
      · rw [if_neg (by omega), if_neg (by omega)]
    · obtain ⟨-, ⟨j, -, hjq⟩ | ⟨-, hk, hkq⟩⟩ := hcell k q hq
      · exact hP1 j q hjq
      · exact (p2 k q hkq).kept (hF.2 q.1 (p2 k q hkq).lt (hno k q hk hkq))
    · obtain ⟨-, ⟨j1, g1, hj1⟩ | ⟨-, hk1, hkq1⟩⟩ := hcell k1 q1 h1
      · obtain ⟨-, ⟨j2, g2, hj2⟩ | ⟨-, hk2, hkq2⟩⟩ := hcell k2 q2 h2
        · have := hD1.1 j1 j2 q1 q2 hj1 hj2 h12
          subst this
          exact Option.some.inj (g1.symm.trans g2)
        · exact absurd (h12 ▸ hD1.2 j1 q1 hj1) (hno k2 q2 hk2 hkq2)
      · obtain ⟨-, ⟨j2, g2, hj2⟩ | ⟨-, hk2, hkq2⟩⟩ := hcell k2 q2 h2
        · exact absurd (h12.symm ▸ hD1.2 j2 q2 hj2) (hno k1 q1 hk1 hkq1)
        · exact p4.1 k1 k2 q1 q2 hkq1 hkq2 h12
    · obtain ⟨-, ⟨j, -, hjq⟩ | ⟨-, hk, hkq⟩⟩ := hcell k q hq
      · exact hsub _ (hD1.2 j q hjq)
      · exact va_A.in hkq
/-- a constructor's call by a plain link -/
theorem zo_callIP {X : zM} {cc : ByteArray} {ws : List Cond} {own : String} {d MC MS : Nat} {pc : Nat} (C : zB X cc ws own d MC MS) {i na maxL : Nat} {y : MethodName} {wsy ws9 : List Cond} {bytes : ByteArray} (hd : decode cc pc = .ok (.invokespecial i, 3)) (hyn : y.name = "<init>") (hlk9 : Cond.methodLink own i y ∈ ws) (hG : GoodIn ws wsy) (hst : Cond.instanceMethod y ∈ ws) (hi9 : Cond.initialized y.cls ∈ ws) (hw : wsy = Cond.code y bytes maxL none :: ws9) (hdd : y.cls ≠ "java/lang/invoke/MethodHandle" ∧ y.cls ≠ "java/lang/invoke/VarHandle" ∧ (parseMethodDescriptor y.desc).map (fun d => d.parameters.length) = some na) (hm9 : maxL ≤ 45) : zOk X pc (oCallI X.1.2.1 y wsy (na + 1) d MC MS) (pc + 3) := by
  obtain ⟨⟨p, l, e, R⟩, ⟨s, m, args, below, meth, c⟩, ⟨D, dA, A, nL, Q⟩, ad0, N0⟩ := X
  obtain ⟨hx, hb, hml, hts, hown, hK, hlk, hA, hZ, hR, hfl⟩ := C
  intro K nx hJ hn ls st w k n h ad H locs la hag hN hP hD hS hl
  unfold oCallI at h
  split at h
  · rename_i av rest hpop
    obtain ⟨⟨hs9, ⟨a, as, hav⟩, hcw, hcl, hcs⟩, d', mc', ms', ⟨r1, r2, r3⟩, hcan⟩ := h
    have hc9 := zShort_le hs9
    obtain ⟨a9, g1, g2, g3⟩ := zpop_eq _ _ _ _ _ hpop
    rw [List.append_nil] at g1
    subst g1
    subst g2
    have hsub := z_sub hA hD hS
    subst hav
    have run := va_runI (p := p) (e := e) (meth := meth) (below := below) (b := ad a) (As := as.map (zv ad)) (rest := rest.map (zv ad)) (locs := locs) (cells := k) (slots := n) (g := F0 m pc la ((Value.ref a :: as).reverse.map (zv ad) ++ rest.map (zv ad))) ⟨hx, hb, hml, hown, hts⟩ (hcan D dA ad H.size) (cwI na hts hG hw rfl rfl (hts _ hi9) (hts _ hlk9) (hts _ hst) hyn hdd ⟨by show d' + 1 ≤ R.frames; omega, by show 8 + (maxL + 11) + 64 * d' ≤ R.locals; omega⟩) ⟨zPre_blind _ _ _ _ _ _, z_pre _ hK hZ hP hD hS hsub⟩ rfl (by rw [List.length_map]; simpa using g3) hl.2.1 (by simp [zv]) (by rw [zs_cat, show JFrame.monitorRoom (F0 m pc la ((Value.ref a :: as).reverse.map (zv ad) ++ rest.map (zv ad))) = 0 from rfl]; omega) hd ⟨by omega, by omega⟩
    rw [List.map_append]
    intro T hT X9
    obtain ⟨v, st₀, t, T', L, h0, X', hL, e1, e2, ⟨⟨w', ad', hv, hΦ, hlen, hz, hP', hD'⟩, hF⟩, stp⟩ := run T hT X9
    obtain ⟨-, -, k3⟩ := vx_keep h0 e1 hS (fun q _ h => hsub q h) hsub hL hF
    have hadk : ∀ j : Nat, j < w.length → ad' j = ad j := fun j hj => hz j (Or.inl hj)
    have hz2 := hn ls rest w' (k + mc') (n + ms') hΦ ad' T'.heap (locs ++ L) la (fun j hj => (hz j (hj.elim (fun q => Or.inl (Nat.lt_of_lt_of_le q hN)) (fun q => Or.inr q))).trans (hag j (hj.elim Or.inl (fun q => Or.inr (Nat.le_trans hlen q))))) (Nat.le_trans hN hlen) (by rw [e1]; exact hP') (hD'.weaken (fun _ q _ h => hsub q.1 h)) k3 (zL_ag hadk hl hcl)
    obtain ⟨t2, a1, b1⟩ := hz2 T' rfl X'
    have hv2 : v = none := by
      have := hv
      injection this
    subst hv2
    rw [zs_ag hadk hcs] at a1
    exact ⟨t2, stp t2 a1, b1⟩
  · exact h.elim
/-! closedness, reckoned -/
def zcV (m : Nat) : Value → Bool
  | .ref j => Nat.blt j m
  | _ => true
def zcE (m : Nat) : zE → Bool
  | .inl (_, (_, .inr (.inr (.inr (.inr _))))) => false
  | .inl _ => true
  | .inr (_, fs) => fs.all (zcV m)
def zcO (m : Nat) : Option Value → Bool
  | some v => zcV m v
  | none => true
theorem zcV_of {m : Nat} {v : Value} (h : zcV m v = true) : zclV m v := by
  cases v with
  | ref j => exact Nat.le_of_ble_eq_true h
  | _ => trivial
theorem zcE_of {m : Nat} {e : zE} (h : zcE m e = true) : zclE m e := by
  match e, h with
  | .inl (_, (_, .inl _)), _ => trivial
  | .inl (_, (_, .inr (.inl _))), _ => trivial
  | .inl (_, (_, .inr (.inr (.inl _)))), _ => trivial
  | .inl (_, (_, .inr (.inr (.inr (.inl _))))), _ => trivial
  | .inr (_, fs), h => exact fun v hv => zcV_of (List.all_eq_true.mp h v hv)
theorem zcW_of {m : Nat} {w : zW} (h : w.all (zcE m) = true) : zclW m w := fun e he => zcE_of (List.all_eq_true.mp h e he)
theorem zcL_of {m : Nat} {ls : zPL} (h : ls.all (zcO m) = true) : zclL m ls := fun v hv => zcV_of (List.all_eq_true.mp h (some v) hv)
theorem zcS_of {m : Nat} {st : List Value} (h : st.all (zcV m) = true) : zclS m st := fun v hv => zcV_of (List.all_eq_true.mp h v hv)
variable {K : zK} {nx : zNx} {ls : zPL} {st : List Value} {w : zW} {k n : Nat}
theorem zn_I {N MC MS : Nat} {i : Int32} (h1 : ¬ i < 0 ∧ i.toNatClampNeg = N ∧ N ≤ 1000) (h2 : zclW w.length w) (h3 : ls.all (zcO w.length) = true) (h4 : st.all (zcV w.length) = true) (h5 : k + 1 ≤ MC ∧ n + N ≤ MS) (h : nx ls (.ref w.length :: st) (w ++ [.inl (0, (N, .inl (fun _ => 0)))]) (k + 1) (n + N)) : oNewaI N MC MS K nx ls (.int i :: st) w k n := ⟨⟨h1, h2, zcL_of h3, zcS_of h4, h5.1, h5.2⟩, h⟩
theorem zn_B {N MC MS : Nat} {i : Int32} (h1 : ¬ i < 0 ∧ i.toNatClampNeg = N ∧ N ≤ 1000) (h2 : zclW w.length w) (h3 : ls.all (zcO w.length) = true) (h4 : st.all (zcV w.length) = true) (h5 : k + 1 ≤ MC ∧ n + N ≤ MS) (h : nx ls (.ref w.length :: st) (w ++ [.inl (3, (N, .inl (fun _ => 0)))]) (k + 1) (n + N)) : oNewaB N MC MS K nx ls (.int i :: st) w k n := ⟨⟨h1, h2, zcL_of h3, zcS_of h4, h5.1, h5.2⟩, h⟩
theorem zn_q {N MC MS : Nat} {i : Int32} (h1 : ¬ i < 0 ∧ i.toNatClampNeg = N ∧ N ≤ 1000) (h2 : zclW w.length w) (h3 : ls.all (zcO w.length) = true) (h4 : st.all (zcV w.length) = true) (h5 : k + 1 ≤ MC ∧ n + N ≤ MS) (h : nx ls (.ref w.length :: st) (w ++ [.inl (5, (N, .inr (.inr (.inr (.inr (fun _ => none))))))]) (k + 1) (n + N)) : oNewq N MC MS K nx ls (.int i :: st) w k n := ⟨⟨h1, h2, zcL_of h3, zcS_of h4, h5.1, h5.2⟩, h⟩
theorem zn_new {ci N MC MS : Nat} {fs : List Value} (h2 : zclW w.length w) (h3 : ls.all (zcO w.length) = true) (h4 : st.all (zcV w.length) = true) (h5 : k + 1 ≤ MC ∧ n + N ≤ MS) (h : nx ls (.ref w.length :: st) (w ++ [.inr (ci, fs)]) (k + 1) (n + N)) : oNew ci N fs MC MS K nx ls st w k n := ⟨⟨h2, zcL_of h3, zcS_of h4, h5.1, h5.2⟩, h⟩
theorem zn_callI {l : Launch} {y : MethodName} {wsy : List Cond} {na d MC MS : Nat} {av rest : List Value} (d' mc' ms' : Nat) {la : List Value} {lw lw' : zW} (hc : CanI l y wsy d' mc' ms' la lw (fun w' => w' = lw')) (ix : List Nat) {W' : zW} (hp : zpop na st [] = some (av, rest)) (hs : zShort rest = true) (ha : ∃ a as, av = Value.ref a :: as) (h2 : zclW w.length w) (h3 : ls.all (zcO w.length) = true) (h4 : rest.all (zcV w.length) = true) (hr : d' + 1 ≤ d ∧ k + mc' ≤ MC ∧ n + ms' ≤ MS) (hi : zIn ix lw w) (h0 : 0 < w.length) (hav : av = la.map (zv (zix ix))) (hW : zapp w ix lw' = W') (h : nx ls rest W' (k + mc') (n + ms')) : oCallI l y wsy na d MC MS K nx ls st w k n := by
  unfold oCallI
  rw [hp]
  exact ⟨⟨hs, ha, h2, zcL_of h3, zcS_of h4⟩, d', mc', ms', hr, CanI.mono (CanI.fe hc ix hi h2 h0 hav hW) (fun w' e => by rw [e]; exact h)⟩
end CI3
