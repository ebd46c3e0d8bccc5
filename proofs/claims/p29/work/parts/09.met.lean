/-! THE LAYER, 4: contracts of methods, their ends, calls, throws -/
section ZZ4
def zRoom (d mc ms : Nat) : Room := { frames := d, cells := mc, slots := ms, locals := 64 * d }
def zPre (D : va_G) (dA : Nat → ClassId) (ad : Nat → Nat) (w : zW) (sz : Nat) : State → Prop := fun U => U.heap.size = sz ∧ va_P D vwCl (zw dA ad w) U.heap ∧ va_K D vwCl (zTys dA) U ∧ va_D (fun _ => True) (zw dA ad w) ∧ zStat (va_A (zw dA ad w) sz) U
theorem zPre_blind (av : List Value) (D : va_G) (dA : Nat → ClassId) (ad : Nat → Nat) (w : zW) (sz : Nat) : FrameBlind (va_Pc av (zPre D dA ad w sz)) := by
  intro a U g mk h
  obtain ⟨h0, h1, h2, h3, h4, h5⟩ := h
  exact ⟨h0, h1, h2, va_K.moved (u := U) (U := U.calling g mk a) (Vm.Alike.refl U.vm) h3, h4, h5.calling g mk a⟩
abbrev zO : Type := Option Value ⊕ String
def zEnd (D : va_G) (dA : Nat → ClassId) (ad : Nat → Nat) (w : zW) (A : Nat → Prop) (w' : zW) (t : State) : Prop := w'.length = w.length ∧ va_P D vwCl (zw dA ad w') t.heap ∧ va_D A (zw dA ad w')
def zQ (D : va_G) (dA : Nat → ClassId) (ad : Nat → Nat) (w : zW) (A : Nat → Prop) (Φ : zO → zW → Prop) : Array Value → State → Outcome → State → Prop := fun _ st oc t => (∃ (r : Option Value) (w' : zW), oc = .returned (r.map (zv ad)) ∧ Φ (.inl r) w' ∧ zEnd D dA ad w A w' t) ∧ va_F A st t
def zXc (D : va_G) (dA : Nat → ClassId) (ad : Nat → Nat) (w : zW) (A : Nat → Prop) (Φ : zO → zW → Prop) : String → State → State → Prop := fun E st t => (∃ w' : zW, Φ (.inr E) w' ∧ zEnd D dA ad w A w' t) ∧ va_F A st t
/-- THE CONTRACT: from the arguments and the world, method y comes to an end (it returns, or throws) of which Φ holds; no cell of the world comes or goes -/
def Can (l : Launch) (y : MethodName) (ws : List Cond) (d mc ms : Nat) (av : List Value) (w : zW) (Φ : zO → zW → Prop) : Prop :=
  ∀ (D : va_G) (dA : Nat → ClassId) (ad : Nat → Nat) (sz : Nat), vx_Met l y ws (zRoom d mc ms) (va_Pc (av.map (zv ad)) (zPre D dA ad w sz)) (zQ D dA ad w (va_A (zw dA ad w) sz) Φ) (zXc D dA ad w (va_A (zw dA ad w) sz) Φ) mc ms (va_A (zw dA ad w) sz)
theorem vx_mono {l : Launch} {y : MethodName} {ws : List Cond} {rm : Room} {P P' : Array Value → State → Prop} {Q Q' : Array Value → State → Outcome → State → Prop} {XC XC' : String → State → State → Prop} {mc ms : Nat} {F F' : Addr → Prop}
    (h : vx_Met l y ws rm P Q XC mc ms F) (hP : ∀ a s, P' a s → P a s) (hQ : ∀ a s o t, P' a s → Q a s o t → Q' a s o t) (hX : ∀ a E s t, P' a s → XC E s t → XC' E s t) (hF : ∀ q, F q → F' q) : vx_Met l y ws rm P' Q' XC' mc ms F' := by
  intro p e h1 h2 h3 s m args below h4 h5 h6 h7
  obtain ⟨n, o, k1, k2, k3, k4⟩ := h p e h1 h2 h3 s m args below h4 h5 (hP _ _ h6) h7
  refine ⟨n, o, k1, k2, k3, ?_⟩
  rcases k4 with ⟨q1, L, q2, q3⟩ | ⟨q, q1, E, ce, L, q2, q3, q4, q5, q6, q7, q8⟩
  · exact Or.inl ⟨hQ _ _ _ _ h6 q1, L, q2, fun z hz => hF _ (q3 z hz)⟩
  · exact Or.inr ⟨q, q1, E, ce, L, hX _ _ _ _ h6 q2, q3, q4, q5, q6, q7, fun z hz => hF _ (q8 z hz)⟩
theorem Can.mono {l : Launch} {y : MethodName} {ws : List Cond} {d mc ms : Nat} {av : List Value} {w : zW} {Φ Ψ : zO → zW → Prop} (h : Can l y ws d mc ms av w Φ) (hi : ∀ o w', Φ o w' → Ψ o w') : Can l y ws d mc ms av w Ψ := fun D dA ad sz =>
  vx_mono (h D dA ad sz) (fun _ _ h => h) (fun _ _ _ _ _ ⟨⟨r, w', h1, h2, h3⟩, h4⟩ => ⟨⟨r, w', h1, hi _ _ h2, h3⟩, h4⟩) (fun _ _ _ _ _ ⟨⟨w', h2, h3⟩, h4⟩ => ⟨⟨w', hi _ _ h2, h3⟩, h4⟩) (fun _ h => h)
/-! THE FRAME: a callee's world is a part of the caller's, its places ix -/
def zix (ix : List Nat) (j : Nat) : Nat := ix.getD j 0
def zrE (ix : List Nat) : zE → zE
  | .inl (t, (n, .inr (.inr (.inr (.inr f))))) => .inl (t, (n, .inr (.inr (.inr (.inr (fun j => (f j).map (zix ix)))))))
  | .inl a => .inl a
  | .inr (c, fs) => .inr (c, fs.map (zv (zix ix)))
def zrO (ix : List Nat) : zO → zO
  | .inl r => .inl (r.map (zv (zix ix)))
  | .inr E => .inr E
def zput : zW → List Nat → zW → (zE → zE) → zW
  | w, i :: ix, e :: r, f => zput (w.set i (f e)) ix r f
  | w, _, _, _ => w
theorem zv_zv (ad : Nat → Nat) (ix : List Nat) (v : Value) : zv ad (zv (zix ix) v) = zv (fun j => ad (zix ix j)) v := by cases v <;> rfl
theorem ze_ze (dA : Nat → ClassId) (ad : Nat → Nat) (ix : List Nat) (e : zE) : ze dA ad (zrE ix e) = ze dA (fun j => ad (zix ix j)) e := by
  match e with
  | .inl (t, (n, .inr (.inr (.inr (.inr f))))) =>
    simp only [zrE, ze, zA, Option.map_map]
    rfl
  | .inl (t, (m, .inl f)) => rfl
  | .inl (t, (m, .inr (.inl f))) => rfl
  | .inl (t, (m, .inr (.inr (.inl f)))) => rfl
  | .inl (t, (m, .inr (.inr (.inr (.inl f))))) => rfl
  | .inr (c, fs) =>
    simp only [zrE, ze, List.map_map]
    congr 2
    apply List.map_congr_left
    intro v _
    exact zv_zv ad ix v
theorem zput_len : ∀ (ix : List Nat) (w r : zW) (f : zE → zE), (zput w ix r f).length = w.length := by
  intro ix
  induction ix with
  | nil => intro w r f; cases r <;> rfl
  | cons i ix ih =>
    intro w r f
    cases r with
    | nil => rfl
    | cons e r => rw [zput, ih, List.length_set]
theorem zput_out : ∀ (ix : List Nat) (w r : zW) (f : zE → zE) (k : Nat), k ∉ ix → (zput w ix r f)[k]? = w[k]? := by
  intro ix
  induction ix with
  | nil => intro w r f k _; cases r <;> rfl
  | cons i ix ih =>
    intro w r f k hk
    cases r with
    | nil => rfl
    | cons e r =>
      rw [zput, ih _ _ _ _ (fun h => hk (List.mem_cons_of_mem _ h)), List.getElem?_set_ne (fun h => hk (by rw [h]; exact List.mem_cons_self))]
theorem zput_in : ∀ (ix : List Nat) (w r : zW) (f : zE → zE) (j k : Nat) (e : zE), ix.Nodup → ix[j]? = some k → r[j]? = some e → k < w.length → (zput w ix r f)[k]? = some (f e) := by
  intro ix
  induction ix with
  | nil => intro w r f j k e _ h; simp at h
  | cons i ix ih =>
    intro w r f j k e hn hj hr hk
    cases r with
    | nil => simp at hr
    | cons e0 r =>
      rw [zput]
      cases j with
      | zero =>
        have h1 : i = k := by simpa using hj
        have h2 : e0 = e := by simpa using hr
        subst h1; subst h2
        rw [zput_out _ _ _ _ _ (List.nodup_cons.mp hn).1, List.getElem?_set_self hk]
      | succ j =>
        exact ih _ _ _ j k e (List.nodup_cons.mp hn).2 (by simpa using hj) (by simpa using hr) (by rw [List.length_set]; exact hk)
theorem zix_get {ix : List Nat} {j k : Nat} (h : ix[j]? = some k) : zix ix j = k := by unfold zix; rw [List.getD_eq_getElem?_getD, h]; rfl
/-- the callee's world among the caller's cells -/
def zIn (ix : List Nat) (lw w : zW) : Prop := ix.Nodup ∧ lw.length = ix.length ∧ ∀ (j k : Nat) (e : zE), ix[j]? = some k → lw[j]? = some e → w[k]? = some (zrE ix e)
theorem Can.frame {l : Launch} {y : MethodName} {ws : List Cond} {d mc ms : Nat} {la : List Value} {lw w : zW} {Φ : zO → zW → Prop} (h : Can l y ws d mc ms la lw Φ) (ix : List Nat) (hi : zIn ix lw w) :
    Can l y ws d mc ms (la.map (zv (zix ix))) w (fun o w' => ∃ o' lw', Φ o' lw' ∧ o = zrO ix o' ∧ lw'.length = lw.length ∧ w' = zput w ix lw' (zrE ix)) := by
  obtain ⟨hnd, hlen, hin⟩ := hi
  intro D dA ad sz
  have hav : (la.map (zv (zix ix))).map (zv ad) = la.map (zv (fun j => ad (zix ix j))) := by
    rw [List.map_map]
    exact List.map_congr_left (fun v _ => zv_zv ad ix v)
  rw [hav]
  have hat : ∀ (j : Nat) (q : Nat × va_E), (zw dA (fun j => ad (zix ix j)) lw)[j]? = some q → ∃ k : Nat, ix[j]? = some k ∧ (zw dA ad w)[k]? = some q := by
    intro j q hq
    obtain ⟨e, he, rfl⟩ := zw_of hq
    have hj : j < ix.length := by rw [← hlen]; exact (List.getElem?_eq_some_iff.mp he).1
    refine ⟨ix[j], List.getElem?_eq_getElem hj, ?_⟩
    have h1 := hin j ix[j] e (List.getElem?_eq_getElem hj) he
    rw [zw_at h1, ze_ze]
    have h2 : zix ix j = ix[j] := zix_get (List.getElem?_eq_getElem hj)
    show some (ad ix[j], _) = some (ad (zix ix j), _)
    rw [h2]
  have hsub : ∀ q, va_A (zw dA (fun j => ad (zix ix j)) lw) sz q → va_A (zw dA ad w) sz q := by
    intro q hq
    rcases hq with ⟨j, e, hj⟩ | hq
    · obtain ⟨k, -, hk⟩ := hat j _ hj
      exact Or.inl ⟨k, e, hk⟩
    · exact Or.inr hq
  have hinj : ∀ (j1 j2 k : Nat), ix[j1]? = some k → ix[j2]? = some k → j1 = j2 := by
    intro j1 j2 k h1 h2
    have l1 := (List.getElem?_eq_some_iff.mp h1).1
    have l2 := (List.getElem?_eq_some_iff.mp h2).1
    exact (List.getElem?_inj l1 hnd).mp (h1.trans h2.symm)
  have hend : ∀ (s t : State) (lw' : zW), zPre D dA ad w sz s → zEnd D dA (fun j => ad (zix ix j)) lw (va_A (zw dA (fun j => ad (zix ix j)) lw) sz) lw' t → va_F (va_A (zw dA (fun j => ad (zix ix j)) lw) sz) s t → zEnd D dA ad w (va_A (zw dA ad w) sz) (zput w ix lw' (zrE ix)) t := by
    intro s t lw' hp he hF
    obtain ⟨p1, p2, p3, p4, p5⟩ := hp
    obtain ⟨e1, e2, e3⟩ := he
    have hwhich : ∀ (k : Nat) (q : Nat × va_E), (zw dA ad (zput w ix lw' (zrE ix)))[k]? = some q → q.1 = ad k ∧ ((∃ j : Nat, ix[j]? = some k ∧ (zw dA (fun j => ad (zix ix j)) lw')[j]? = some q) ∨ (k ∉ ix ∧ (zw dA ad w)[k]? = some q)) := by
      intro k q hq
      obtain ⟨e, he, rfl⟩ := zw_of hq
      refine ⟨rfl, ?_⟩
      by_cases hk : k ∈ ix
      · left
        obtain ⟨j, hj⟩ := List.getElem?_of_mem hk
        have hjl : j < lw'.length := by rw [e1, hlen]; exact (List.getElem?_eq_some_iff.mp hj).1
        have hkw : k < w.length := by
          have := (List.getElem?_eq_some_iff.mp he).1
          rw [zput_len] at this; exact this
        have h1 := zput_in ix w lw' (zrE ix) j k lw'[j] hnd hj (List.getElem?_eq_getElem hjl) hkw
        refine ⟨j, hj, ?_⟩
        rw [he] at h1
        rw [zw_at (List.getElem?_eq_getElem hjl), Option.some.inj h1, ze_ze, zix_get hj]
      · right
        refine ⟨hk, ?_⟩
        rw [zput_out ix w lw' (zrE ix) k hk] at he
        exact zw_at he
    refine ⟨zput_len _ _ _ _, fun k q hq => ?_, fun k1 k2 q1 q2 h1 h2 h12 => ?_, fun k q hq => ?_⟩
    · obtain ⟨hq1, ⟨j, hj, hjq⟩ | ⟨hk, hkq⟩⟩ := hwhich k q hq
      · exact e2 j q hjq
      · refine (p2 k q hkq).kept (hF.2 q.1 (p2 k q hkq).lt ?_)
        rintro (⟨j, e, hj⟩ | hge)
        · obtain ⟨k', hk', hk2⟩ := hat j _ hj
          have := p4.1 k k' q (q.1, e) hkq hk2 rfl
          subst this
          exact hk (List.mem_of_getElem? hk')
        · have := (p2 k q hkq).lt
          omega
    · obtain ⟨e9, h1'⟩ := hwhich k1 q1 h1
      obtain ⟨e8, h2'⟩ := hwhich k2 q2 h2
      have hb1 : k1 < w.length := by
        have := (List.getElem?_eq_some_iff.mp h1).1
        rw [zw_len, zput_len] at this; exact this
      have hb2 : k2 < w.length := by
        have := (List.getElem?_eq_some_iff.mp h2).1
        rw [zw_len, zput_len] at this; exact this
      exact p4.1 k1 k2 (ad k1, ze dA ad w[k1]) (ad k2, ze dA ad w[k2]) (zw_at (List.getElem?_eq_getElem hb1)) (zw_at (List.getElem?_eq_getElem hb2)) (by
        show ad k1 = ad k2
        rw [← e9, ← e8]; exact h12)
    · obtain ⟨hq1, -⟩ := hwhich k q hq
      have hb1 : k < w.length := by
        have := (List.getElem?_eq_some_iff.mp hq).1
        rw [zw_len, zput_len] at this; exact this
      rw [hq1]
      exact va_A.in (zw_at (List.getElem?_eq_getElem hb1))
  refine vx_mono (h D dA (fun j => ad (zix ix j)) sz) ?_ ?_ ?_ hsub
  · rintro a s ⟨h0, p1, p2, p3, p4, p5⟩
    refine ⟨h0, p1, fun j q hq => ?_, p3, ⟨fun j1 j2 q1 q2 h1 h2 h12 => ?_, fun _ _ _ => trivial⟩, ?_⟩
    · obtain ⟨k, -, hk⟩ := hat j q hq
      exact p2 k q hk
    · obtain ⟨k1, g1, hk1⟩ := hat j1 q1 h1
      obtain ⟨k2, g2, hk2⟩ := hat j2 q2 h2
      have := p4.1 k1 k2 q1 q2 hk1 hk2 h12
      subst this
      exact hinj _ _ _ g1 g2
    · obtain ⟨z1, z2, z3⟩ := p5
      exact ⟨z1.narrow hsub, z2.narrow hsub, z3⟩
  · rintro a s o t ⟨h0, hp⟩ ⟨⟨r, lw', h1, h2, h3⟩, h4⟩
    refine ⟨⟨r.map (zv (zix ix)), _, ?_, ⟨.inl r, lw', h2, rfl, h3.1, rfl⟩, hend s t lw' hp h3 h4⟩, h4.1, fun q hq hA => h4.2 q hq (fun z => hA (hsub q z))⟩
    rw [h1, Option.map_map]
    congr 2
    funext v
    exact (zv_zv ad ix v).symm
  · rintro a E s t ⟨h0, hp⟩ ⟨⟨lw', h2, h3⟩, h4⟩
    exact ⟨⟨_, ⟨.inr E, lw', h2, rfl, h3.1, rfl⟩, hend s t lw' hp h3 h4⟩, h4.1, fun q hq hA => h4.2 q hq (fun z => hA (hsub q z))⟩
/-! what a method's body knows of its end -/
def zM9 (X : zM) (ret : Option FieldType) (w0 : zW) (MC MS : Nat) (Φ : zO → zW → Prop) : Prop := match X with
  | ((p, l, e, R), (s, m, args, below, meth, c), (D, dA, A, nL, Q), (ad0, N0)) => meth.sig.returnType = ret ∧ N0 = w0.length ∧ (∀ (H : Heap) (locs : List Loc) (g : JFrame), W p l e R s m args below meth c H locs MC MS (MQ below (zQ D dA ad0 w0 A Φ) args s MC MS A) g → W p l e R s m args below meth c H locs MC MS Q g)
/-- how a throw goes on from the frame at pc -/
abbrev zXH : Type := zK → zPL → String → zW → Nat → Nat → Prop
def zXat (X : zM) (pc : Nat) (ls : zPL) (w : zW) (k n : Nat) (E : String) : Prop := match X with
  | ((p, l, e, R), (s, m, args, below, meth, c), (D, dA, A, nL, Q), (ad0, N0)) => ∀ (ad : Nat → Nat) (H : Heap) (locs : List Loc) (la : Array Slot) (st : List Value) (q : Addr) (ce : Cell), zag N0 w.length ad ad0 → N0 ≤ w.length → va_P D vwCl (zw dA ad w) H → va_D A (zw dA ad w) → va_S A s.heap H locs → zL ad la nL ls → H[q]? = some ce → ce.vm = .none → s.vm.findClass E = some ce.cls → vx_W p l e R s m args below meth c H locs k n Q (F0 m pc la st) q
def zXok (X : zM) (pc MC MS : Nat) (XH : zXH) : Prop := ∀ K : zK, (∀ j ls st w k n, K j ls st w k n → zAt X j ls st w k n) → ∀ ls E w k n, XH K ls E w k n → k ≤ MC → n ≤ MS → zXat X pc ls w k n E
theorem zag_eq {N : Nat} {ad ad0 : Nat → Nat} (h : zag N N ad ad0) : ad = ad0 := funext fun k => h k (Nat.lt_or_ge k N)
/-- no handler: the throw goes on to the caller -/
def zEx (X : zM) (w0 : zW) (MC MS : Nat) (Φ : zO → zW → Prop) : Prop := match X with
  | ((p, l, e, R), (s, m, args, below, meth, c), (D, dA, A, nL, Q), (ad0, N0)) => (∀ x ∈ c.exceptionTable.toList, False) ∧ N0 = w0.length ∧ Q = vx_MQ below (zQ D dA ad0 w0 A Φ) (zXc D dA ad0 w0 A Φ) args s MC MS A
def zThru (Φ : zO → zW → Prop) (N : Nat) : zXH := fun _ _ E w _ _ => Φ (.inr E) w ∧ w.length = N
theorem zXok_thru {X : zM} {cc : ByteArray} {ws : List Cond} {own : String} {d MC MS pc : Nat} {w0 : zW} {Φ : zO → zW → Prop} (C : zB X cc ws own d MC MS) (hE : zEx X w0 MC MS Φ) : zXok X pc MC MS (zThru Φ w0.length) := by
  obtain ⟨⟨p, l, e, R⟩, ⟨s, m, args, below, meth, c⟩, ⟨D, dA, A, nL, Q⟩, ad0, N0⟩ := X
  obtain ⟨hx, hb, hml, hts, hown, hK, hlk, hA, hZ, hR, hfl⟩ := C
  obtain ⟨hnt, hN0, hQ⟩ := hE
  intro K hJ ls E w k n ⟨hΦ, hlen⟩ hk hn ad H locs la st q ce hag hN hP hD hS hl hce hcv hcl
  have hN0 : N0 = w0.length := hN0
  have hQ : Q = vx_MQ below (zQ D dA ad0 w0 A Φ) (zXc D dA ad0 w0 A Φ) args s MC MS A := hQ
  subst hQ
  rw [hlen, hN0] at hag
  have := zag_eq hag
  subst this
  exact vx_out (fun x hx => (hnt x hx).elim) hlk hce hcv hcl (fun t ht hvm => ⟨⟨w, hΦ, hlen, by rw [ht]; exact hP, hD⟩, hS.F ht⟩) hS.2.2 hk hn
/-! ends -/
def oIret (Φ : zO → zW → Prop) (N MC MS : Nat) (_ : zK) (_ : zNx) (_ : zPL) (st : List Value) (w : zW) (k n : Nat) : Prop := match st with
  | [.int v] => Φ (.inl (some (.int v))) w ∧ w.length = N ∧ k ≤ MC ∧ n ≤ MS
  | _ => False
def oZret (Φ : zO → zW → Prop) (N MC MS : Nat) (_ : zK) (_ : zNx) (_ : zPL) (st : List Value) (w : zW) (k n : Nat) : Prop := match st with
  | [.int v] => (v = 0 ∨ v = 1) ∧ Φ (.inl (some (.int v))) w ∧ w.length = N ∧ k ≤ MC ∧ n ≤ MS
  | _ => False
def oLret (Φ : zO → zW → Prop) (N MC MS : Nat) (_ : zK) (_ : zNx) (_ : zPL) (st : List Value) (w : zW) (k n : Nat) : Prop := match st with
  | [.long v] => Φ (.inl (some (.long v))) w ∧ w.length = N ∧ k ≤ MC ∧ n ≤ MS
  | _ => False
def oDret (Φ : zO → zW → Prop) (N MC MS : Nat) (_ : zK) (_ : zNx) (_ : zPL) (st : List Value) (w : zW) (k n : Nat) : Prop := match st with
  | [.double v] => Φ (.inl (some (.double v))) w ∧ w.length = N ∧ k ≤ MC ∧ n ≤ MS
  | _ => False
def oVret (Φ : zO → zW → Prop) (N MC MS : Nat) (_ : zK) (_ : zNx) (_ : zPL) (st : List Value) (w : zW) (k n : Nat) : Prop := match st with
  | [] => Φ (.inl none) w ∧ w.length = N ∧ k ≤ MC ∧ n ≤ MS
  | _ => False
/-! GENERATED -/
theorem zo_Iret {X : zM} {cc : ByteArray} {ws : List Cond} {own : String} {d MC MS : Nat} {pc : Nat} {w0 : zW} {Φ : zO → zW → Prop} {ret : Option FieldType} (C : zB X cc ws own d MC MS) (E : zM9 X ret w0 MC MS Φ) (hd : decode cc pc = .ok (.ireturn, 1)) (hty : ret = some .int) : zOk X pc (oIret Φ w0.length MC MS) (pc + 1) := by
  obtain ⟨⟨p, l, e, R⟩, ⟨s, m, args, below, meth, c⟩, ⟨D, dA, A, nL, Q⟩, ad0, N0⟩ := X
  obtain ⟨hx, hb, hml, hts, hown, hK, hlk, hA, hZ, hR, hfl⟩ := C
  obtain ⟨hret, hN0, hQ⟩ := E
  have hN0 : N0 = w0.length := hN0
  intro K nx hJ hn ls st w k n h ad H locs la hag hN hP hD hS hl
  unfold oIret at h
  split at h
  · rename_i v
    obtain ⟨hΦ, hlen, h1, h2⟩ := h
    rw [hlen, hN0] at hag
    have := zag_eq hag
    subst this
    exact W.widen h1 h2 (hQ _ _ _ (W.iret (v := v) hx hb (hret.trans hty) (fun t ht hW => ⟨⟨some (.int v), w, rfl, hΦ, hlen, by rw [ht]; exact hP, hD⟩, hS.F ht⟩) hS.2.2 hd hlk))
  · exact h.elim
theorem zo_Zret {X : zM} {cc : ByteArray} {ws : List Cond} {own : String} {d MC MS : Nat} {pc : Nat} {w0 : zW} {Φ : zO → zW → Prop} {ret : Option FieldType} (C : zB X cc ws own d MC MS) (E : zM9 X ret w0 MC MS Φ) (hd : decode cc pc = .ok (.ireturn, 1)) (hty : ret = some .boolean) : zOk X pc (oZret Φ w0.length MC MS) (pc + 1) := by
  obtain ⟨⟨p, l, e, R⟩, ⟨s, m, args, below, meth, c⟩, ⟨D, dA, A, nL, Q⟩, ad0, N0⟩ := X
  obtain ⟨hx, hb, hml, hts, hown, hK, hlk, hA, hZ, hR, hfl⟩ := C
  obtain ⟨hret, hN0, hQ⟩ := E
  have hN0 : N0 = w0.length := hN0
  intro K nx hJ hn ls st w k n h ad H locs la hag hN hP hD hS hl
  unfold oZret at h
  split at h
  · rename_i v
    obtain ⟨hb9, hΦ, hlen, h1, h2⟩ := h
    rw [hlen, hN0] at hag
    have := zag_eq hag
    subst this
    exact W.widen h1 h2 (hQ _ _ _ (W.zret (v := v) hx hb (hret.trans hty) (by rcases hb9 with rfl | rfl <;> rfl) (fun t ht hW => ⟨⟨some (.int v), w, rfl, hΦ, hlen, by rw [ht]; exact hP, hD⟩, hS.F ht⟩) hS.2.2 hd hlk))
  · exact h.elim
theorem zo_Lret {X : zM} {cc : ByteArray} {ws : List Cond} {own : String} {d MC MS : Nat} {pc : Nat} {w0 : zW} {Φ : zO → zW → Prop} {ret : Option FieldType} (C : zB X cc ws own d MC MS) (E : zM9 X ret w0 MC MS Φ) (hd : decode cc pc = .ok (.lreturn, 1)) (hty : ret = some .long) : zOk X pc (oLret Φ w0.length MC MS) (pc + 1) := by
  obtain ⟨⟨p, l, e, R⟩, ⟨s, m, args, below, meth, c⟩, ⟨D, dA, A, nL, Q⟩, ad0, N0⟩ := X
  obtain ⟨hx, hb, hml, hts, hown, hK, hlk, hA, hZ, hR, hfl⟩ := C
  obtain ⟨hret, hN0, hQ⟩ := E
  have hN0 : N0 = w0.length := hN0
  intro K nx hJ hn ls st w k n h ad H locs la hag hN hP hD hS hl
  unfold oLret at h
  split at h
  · rename_i v
    obtain ⟨hΦ, hlen, h1, h2⟩ := h
    rw [hlen, hN0] at hag
    have := zag_eq hag
    subst this
    exact W.widen h1 h2 (hQ _ _ _ (W.lret (v := v) hx hb (hret.trans hty) (fun t ht hW => ⟨⟨some (.long v), w, rfl, hΦ, hlen, by rw [ht]; exact hP, hD⟩, hS.F ht⟩) hS.2.2 hd hlk))
  · exact h.elim
theorem zo_Dret {X : zM} {cc : ByteArray} {ws : List Cond} {own : String} {d MC MS : Nat} {pc : Nat} {w0 : zW} {Φ : zO → zW → Prop} {ret : Option FieldType} (C : zB X cc ws own d MC MS) (E : zM9 X ret w0 MC MS Φ) (hd : decode cc pc = .ok (.dreturn, 1)) (hty : ret = some .double) : zOk X pc (oDret Φ w0.length MC MS) (pc + 1) := by
  obtain ⟨⟨p, l, e, R⟩, ⟨s, m, args, below, meth, c⟩, ⟨D, dA, A, nL, Q⟩, ad0, N0⟩ := X
  obtain ⟨hx, hb, hml, hts, hown, hK, hlk, hA, hZ, hR, hfl⟩ := C
  obtain ⟨hret, hN0, hQ⟩ := E
  have hN0 : N0 = w0.length := hN0
  intro K nx hJ hn ls st w k n h ad H locs la hag hN hP hD hS hl
  unfold oDret at h
  split at h
  · rename_i v
    obtain ⟨hΦ, hlen, h1, h2⟩ := h
    rw [hlen, hN0] at hag
    have := zag_eq hag
    subst this
    exact W.widen h1 h2 (hQ _ _ _ (W.dret (v := v) hx hb (hret.trans hty) (fun t ht hW => ⟨⟨some (.double v), w, rfl, hΦ, hlen, by rw [ht]; exact hP, hD⟩, hS.F ht⟩) hS.2.2 hd hlk))
  · exact h.elim
theorem zo_Vret {X : zM} {cc : ByteArray} {ws : List Cond} {own : String} {d MC MS : Nat} {pc : Nat} {w0 : zW} {Φ : zO → zW → Prop} {ret : Option FieldType} (C : zB X cc ws own d MC MS) (E : zM9 X ret w0 MC MS Φ) (hd : decode cc pc = .ok (.return_, 1)) (hty : ret = none) : zOk X pc (oVret Φ w0.length MC MS) (pc + 1) := by
  obtain ⟨⟨p, l, e, R⟩, ⟨s, m, args, below, meth, c⟩, ⟨D, dA, A, nL, Q⟩, ad0, N0⟩ := X
  obtain ⟨hx, hb, hml, hts, hown, hK, hlk, hA, hZ, hR, hfl⟩ := C
  obtain ⟨hret, hN0, hQ⟩ := E
  have hN0 : N0 = w0.length := hN0
  intro K nx hJ hn ls st w k n h ad H locs la hag hN hP hD hS hl
  unfold oVret at h
  split at h
  · obtain ⟨hΦ, hlen, h1, h2⟩ := h
    rw [hlen, hN0] at hag
    have := zag_eq hag
    subst this
    exact W.widen h1 h2 (hQ _ _ _ (W.vret hx hb (hret.trans hty) (fun t ht hW => ⟨⟨none, w, rfl, hΦ, hlen, by rw [ht]; exact hP, hD⟩, hS.F ht⟩) hS.2.2 hd hlk))
  · exact h.elim
/-! calls -/
def zpop : Nat → List Value → List Value → Option (List Value × List Value)
  | 0, st, acc => some (acc, st)
  | k + 1, v :: st, acc => zpop k st (v :: acc)
  | _ + 1, [], _ => none
theorem zpop_eq : ∀ (k : Nat) (st acc av rest : List Value), zpop k st acc = some (av, rest) → ∃ a9 : List Value, av = a9 ++ acc ∧ st = a9.reverse ++ rest ∧ a9.length = k
  | 0, st, acc, av, rest, h => by
    simp only [zpop, Option.some.injEq, Prod.mk.injEq] at h
    exact ⟨[], by rw [h.1]; rfl, by rw [h.2]; rfl, rfl⟩
  | k + 1, [], acc, av, rest, h => by simp [zpop] at h
  | k + 1, v :: st, acc, av, rest, h => by
    obtain ⟨a9, h1, h2, h3⟩ := zpop_eq k st (v :: acc) av rest h
    exact ⟨a9 ++ [v], by rw [h1]; simp, by rw [h2]; simp, by simp [h3]⟩
def zRecv (w : zW) (ci : Nat) : List Value → Prop
  | .ref a :: _ => match zg w a with
    | some (.inr (c, _)) => c = ci
    | _ => False
  | _ => False
/-- a call of y with na arguments (the receiver among them) -/
def oCall (l : Launch) (y : MethodName) (wsy : List Cond) (na : Nat) (rc : Option Nat) (d MC MS : Nat) (XH : zXH) (K : zK) (nx : zNx) (ls : zPL) (st : List Value) (w : zW) (k n : Nat) : Prop := match zpop na st [] with
  | some (av, rest) => zShort rest = true ∧ (match rc with
      | some ci => zRecv w ci av
      | none => True) ∧ ∃ d' mc' ms', (d' + 1 ≤ d ∧ k + mc' ≤ MC ∧ n + ms' ≤ MS) ∧ Can l y wsy d' mc' ms' av w (fun o w' => match o with
      | .inl r => nx ls (r.toList ++ rest) w' (k + mc') (n + ms')
      | .inr E => XH K ls E w' (k + mc') (n + ms'))
  | none => False
theorem z_pre {D : va_G} {dA : Nat → ClassId} {ad : Nat → Nat} {w : zW} {A : Nat → Prop} {s : State} {H : Heap} {locs : List Loc} (av : List Value) (hK : va_K D vwCl (zTys dA) s) (hZ : zStat A s) (hP : va_P D vwCl (zw dA ad w) H) (hD : va_D A (zw dA ad w)) (hS : va_S A s.heap H locs) (hsub : ∀ q, va_A (zw dA ad w) H.size q → A q) : ∀ U : State, U.heap = H → s.WarmedH U.vm → va_Pc av (zPre D dA ad w H.size) av.toArray U := fun U hU hW =>
  ⟨rfl, by rw [hU], by rw [hU]; exact hP, va_K.moved hW.alike hK, hD.weaken (fun _ _ _ _ => trivial), hZ.at hW (fun a ha hn => by rw [hU]; exact hS.2.1 a ha hn) hsub⟩
theorem z_sub {dA : Nat → ClassId} {ad : Nat → Nat} {w : zW} {A : Nat → Prop} {H0 H : Heap} {locs : List Loc} (hA : ∀ q : Nat, H0.size ≤ q → A q) (hD : va_D A (zw dA ad w)) (hS : va_S A H0 H locs) : ∀ q, va_A (zw dA ad w) H.size q → A q := by
  intro q hq
  rcases hq with ⟨k, e, h⟩ | h
  · exact hD.2 k _ h
  · exact hA q (Nat.le_trans hS.1 h)
theorem z_ret (ad : Nat → Nat) (r : Option Value) (rest : List Value) : (r.toList ++ rest).map (zv ad) = (r.map (zv ad)).toList ++ rest.map (zv ad) := by cases r <;> rfl
theorem zo_callV {X : zM} {cc : ByteArray} {ws : List Cond} {own : String} {d MC MS : Nat} {pc : Nat} (C : zB X cc ws own d MC MS) {i na maxL : Nat} {y : MethodName} {wsy ws9 : List Cond} {bytes : ByteArray} {rt : Option FieldType} {XH : zXH} {ci N : Nat} {T : u_T} {Cn : String} (hd : decode cc pc = .ok (.invokevirtual i, 3)) (hc : vwCl[ci]? = some (Cn, T, N)) (hG : GoodIn ws (wsV own i Cn y wsy)) (hw : wsy = Cond.code y bytes maxL rt :: ws9) (hdd : y.cls = Cn ∧ y.cls ≠ "java/lang/invoke/MethodHandle" ∧ y.cls ≠ "java/lang/invoke/VarHandle" ∧ (parseMethodDescriptor y.desc).map (fun d => d.parameters.length) = some na) (hm9 : maxL ≤ 45) (hXH : zXok X pc MC MS XH) : zOk X pc (oCall X.1.2.1 y wsy (na + 1) (some ci) d MC MS XH) (pc + 3) := by
  obtain ⟨⟨p, l, e, R⟩, ⟨s, m, args, below, meth, c⟩, ⟨D, dA, A, nL, Q⟩, ad0, N0⟩ := X
  obtain ⟨hx, hb, hml, hts, hown, hK, hlk, hA, hZ, hR, hfl⟩ := C
  intro K nx hJ hn ls st w k n h ad H locs la hag hN hP hD hS hl
  unfold oCall at h
  split at h
  · rename_i av rest hpop
    obtain ⟨hs9, hrec, d', mc', ms', ⟨r1, r2, r3⟩, hcan⟩ := h
    have hc9 := zShort_le hs9
    obtain ⟨a9, g1, g2, g3⟩ := zpop_eq _ _ _ _ _ hpop
    rw [List.append_nil] at g1
    subst g1
    subst g2
    have hsub := z_sub hA hD hS
    cases av with
    | nil => exact hrec.elim
    | cons v0 as =>
    cases v0 with
    | ref a =>
      unfold zRecv at hrec
      dsimp only at hrec
      split at hrec
      · rename_i c8 fs8 hg8
        have hrec : c8 = ci := hrec
        subst hrec
        have run := vx_runV (p := p) (e := e) (meth := meth) (below := below) (As := as.map (zv ad)) (rest := rest.map (zv ad)) (locs := locs) (cells := k) (slots := n) (g := F0 m pc la ((Value.ref a :: as).reverse.map (zv ad) ++ rest.map (zv ad))) ⟨hx, hb, hml, hown, hts⟩ (hcan D dA ad H.size) (cwV na hts hG hw rfl rfl hdd ⟨by show d' + 1 ≤ R.frames; omega, by show 8 + (maxL + 11) + 64 * d' ≤ R.locals; omega⟩) ⟨zPre_blind _ _ _ _ _ _, va_recv hK hP hc (zw_at (zg_some hg8)), z_pre _ hK hZ hP hD hS hsub⟩ rfl (by rw [List.length_map]; simpa using g3) hl.2.1 (by simp [zv]) (by rw [zs_cat, show JFrame.monitorRoom (F0 m pc la ((Value.ref a :: as).reverse.map (zv ad) ++ rest.map (zv ad))) = 0 from rfl]; omega) hd ⟨by omega, by omega⟩
        rw [List.map_append]
        intro T hT X9
        rcases run T hT X9 with ⟨v, st₀, t, T', L, h0, X', hL, e1, e2, ⟨⟨r, w', hv, hΦ, hE⟩, hF⟩, stp⟩ | ⟨q, st₀, t, T', L, E, ce, h0, X', hL, e1, e2, ⟨⟨w', hΦ, hE⟩, hF⟩, hce, hcv, hcl, stp⟩
        · obtain ⟨-, -, k3⟩ := vx_keep h0 e1 hS (fun q _ h => hsub q h) hsub hL hF
          have hz := hn ls (r.toList ++ rest) w' (k + mc') (n + ms') hΦ ad T'.heap (locs ++ L) la (by rw [hE.1]; exact hag) (by rw [hE.1]; exact hN) (by rw [e1]; exact hE.2.1) (hE.2.2.weaken (fun _ q _ h => hsub q.1 h)) k3 hl
          obtain ⟨t2, a1, b1⟩ := hz T' rfl X'
          have hv2 : v = r.map (zv ad) := by
            have := hv
            injection this
          rw [z_ret, ← hv2] at a1
          exact ⟨t2, stp t2 a1, b1⟩
        · obtain ⟨-, -, k3⟩ := vx_keep h0 e1 hS (fun q _ h => hsub q h) hsub hL hF
          obtain ⟨t2, a1, b1⟩ := hXH K hJ ls E w' (k + mc') (n + ms') hΦ r2 r3 ad T'.heap (locs ++ L) la (rest.map (zv ad)) q ce (by rw [hE.1]; exact hag) (by rw [hE.1]; exact hN) (by rw [e1]; exact hE.2.1) (hE.2.2.weaken (fun _ q _ h => hsub q.1 h)) k3 hl (by rw [e1]; exact hce) hcv hcl T' rfl X'
          exact ⟨t2, stp.trans a1, b1⟩
      · exact hrec.elim
    | _ => exact hrec.elim
  · exact h.elim
theorem zo_callS {X : zM} {cc : ByteArray} {ws : List Cond} {own : String} {d MC MS : Nat} {pc : Nat} (C : zB X cc ws own d MC MS) {i na maxL : Nat} {y : MethodName} {wsy ws9 : List Cond} {bytes : ByteArray} {rt : Option FieldType} {XH : zXH} (hd : decode cc pc = .ok (.invokestatic i, 3)) (hG : GoodIn ws (va_wsS own i y wsy)) (hw : wsy = Cond.code y bytes maxL rt :: ws9) (hdd : y.cls ≠ "java/lang/invoke/MethodHandle" ∧ y.cls ≠ "java/lang/invoke/VarHandle" ∧ (parseMethodDescriptor y.desc).map (fun d => d.parameters.length) = some na) (hm9 : maxL ≤ 45) (hXH : zXok X pc MC MS XH) : zOk X pc (oCall X.1.2.1 y wsy na none d MC MS XH) (pc + 3) := by
  obtain ⟨⟨p, l, e, R⟩, ⟨s, m, args, below, meth, c⟩, ⟨D, dA, A, nL, Q⟩, ad0, N0⟩ := X
  obtain ⟨hx, hb, hml, hts, hown, hK, hlk, hA, hZ, hR, hfl⟩ := C
  intro K nx hJ hn ls st w k n h ad H locs la hag hN hP hD hS hl
  unfold oCall at h
  split at h
  · rename_i av rest hpop
    obtain ⟨hs9, hrec, d', mc', ms', ⟨r1, r2, r3⟩, hcan⟩ := h
    have hc9 := zShort_le hs9
    obtain ⟨a9, g1, g2, g3⟩ := zpop_eq _ _ _ _ _ hpop
    rw [List.append_nil] at g1
    subst g1
    subst g2
    have hsub := z_sub hA hD hS
    have ok : ∀ w ∈ va_wsS own i y wsy, w.before args s = true := fun w h => hts w (hG w h).1
    have hG2 : GoodIn ws wsy := fun w h => hG w (List.mem_append_right _ h)
    have run := vx_runS (p := p) (e := e) (meth := meth) (below := below) (As := av.map (zv ad)) (rest := rest.map (zv ad)) (locs := locs) (cells := k) (slots := n) (g := F0 m pc la (av.reverse.map (zv ad) ++ rest.map (zv ad))) ⟨hx, hb, hml, hown, hts⟩ (hcan D dA ad H.size) ⟨callB_of na hts hG2 hw rfl rfl (ok _ (by simp [va_wsS])) (ok _ (by simp [va_wsS])) hdd ⟨by show d' + 1 ≤ R.frames; omega, by show 8 + (maxL + 11) + 64 * d' ≤ R.locals; omega⟩, ok _ (by simp [va_wsS])⟩ ⟨zPre_blind _ _ _ _ _ _, z_pre _ hK hZ hP hD hS hsub⟩ rfl (by rw [List.length_map]; exact g3) hl.2.1 (by simp) (by rw [zs_cat, show JFrame.monitorRoom (F0 m pc la (av.reverse.map (zv ad) ++ rest.map (zv ad))) = 0 from rfl]; omega) hd ⟨by omega, by omega⟩
    rw [List.map_append]
    intro T hT X9
    rcases run T hT X9 with ⟨v, st₀, t, T', L, h0, X', hL, e1, e2, ⟨⟨r, w', hv, hΦ, hE⟩, hF⟩, stp⟩ | ⟨q, st₀, t, T', L, E, ce, h0, X', hL, e1, e2, ⟨⟨w', hΦ, hE⟩, hF⟩, hce, hcv, hcl, stp⟩
    · obtain ⟨-, -, k3⟩ := vx_keep h0 e1 hS (fun q _ h => hsub q h) hsub hL hF
      have hz := hn ls (r.toList ++ rest) w' (k + mc') (n + ms') hΦ ad T'.heap (locs ++ L) la (by rw [hE.1]; exact hag) (by rw [hE.1]; exact hN) (by rw [e1]; exact hE.2.1) (hE.2.2.weaken (fun _ q _ h => hsub q.1 h)) k3 hl
      obtain ⟨t2, a1, b1⟩ := hz T' rfl X'
      have hv2 : v = r.map (zv ad) := by
        have := hv
        injection this
      rw [z_ret, ← hv2] at a1
      exact ⟨t2, stp t2 a1, b1⟩
    · obtain ⟨-, -, k3⟩ := vx_keep h0 e1 hS (fun q _ h => hsub q h) hsub hL hF
      obtain ⟨t2, a1, b1⟩ := hXH K hJ ls E w' (k + mc') (n + ms') hΦ r2 r3 ad T'.heap (locs ++ L) la (rest.map (zv ad)) q ce (by rw [hE.1]; exact hag) (by rw [hE.1]; exact hN) (by rw [e1]; exact hE.2.1) (hE.2.2.weaken (fun _ q _ h => hsub q.1 h)) k3 hl (by rw [e1]; exact hce) hcv hcl T' rfl X'
      exact ⟨t2, stp.trans a1, b1⟩
  · exact h.elim
end ZZ4
