/-! THE FRAME for methods that only return -/
section CF
theorem met_mono {l : Launch} {y : MethodName} {ws : List Cond} {rm : Room} {P P' : Array Value → State → Prop} {Q Q' : Array Value → State → Outcome → State → Prop} {mc ms : Nat} {F F' : Addr → Prop}
    (h : Met l y ws rm P Q mc ms F) (hP : ∀ a s, P' a s → P a s) (hQ : ∀ a s o t, P' a s → Q a s o t → Q' a s o t) (hF : ∀ q, F q → F' q) : Met l y ws rm P' Q' mc ms F' := by
  intro p e h1 h2 h3 s m args below h4 h5 h6 h7
  obtain ⟨n, o, k1, k2, k3, q1, L, q2, q3⟩ := h p e h1 h2 h3 s m args below h4 h5 (hP _ _ h6) h7
  exact ⟨n, o, k1, k2, k3, hQ _ _ _ _ h6 q1, L, q2, fun z hz => hF _ (q3 z hz)⟩
theorem CanM.frame {l : Launch} {y : MethodName} {ws : List Cond} {d mc ms : Nat} {la : List Value} {lw w : zW} {Φ : Option Value → zW → Prop} (h : CanM l y ws d mc ms la lw Φ) (ix : List Nat) (hi : zIn ix lw w) :
    CanM l y ws d mc ms (la.map (zv (zix ix))) w (fun o w' => ∃ o' lw', Φ o' lw' ∧ o = o'.map (zv (zix ix)) ∧ lw'.length = lw.length ∧ w' = zput w ix lw' (zrE ix)) := by
  obtain ⟨hnd, hlen, hin⟩ := hi
  intro D dA ad sz
  have hav : (la.map (zv (zix ix))).map (zv ad) = la.map (zv (fun j => ad (zix ix j))) := by
    rw [List.map_map]
    exact List.map_congr_left (fun v _ => zv_zv ad ix v)
  rw [hav]
  have hat : ∀ (j : Nat) (q : Nat × va_E), (zw dA (fun j => ad (zix ix j)) lw)[j]? = some q → ∃ k : Nat, ix[j]? = some k ∧ (zw dA ad w)[k]? = some q := by
    intro j q hq
    obtain ⟨e, he, rfl⟩ := zw_of hq
    have hj : j < ix.length := by rw [← hlen]; exact (List.getElem?_eq_some_iff.mp he).1
    refine ⟨ix[j], List.getElem?_eq_getElem hj, ?_⟩
    have h1 := hin j ix[j] e (List.getElem?_eq_getElem hj) he
    rw [zw_at h1, ze_ze]
    have h2 : zix ix j = ix[j] := zix_get (List.getElem?_eq_getElem hj)
    show some (ad ix[j], _) = some (ad (zix ix j), _)
    rw [h2]
  have hsub : ∀ q, va_A (zw dA (fun j => ad (zix ix j)) lw) sz q → va_A (zw dA ad w) sz q := by
    intro q hq
    rcases hq with ⟨j, e, hj⟩ | hq
    · obtain ⟨k, -, hk⟩ := hat j _ hj
      exact Or.inl ⟨k, e, hk⟩
    · exact Or.inr hq
  have hinj : ∀ (j1 j2 k : Nat), ix[j1]? = some k → ix[j2]? = some k → j1 = j2 := by
    intro j1 j2 k h1 h2
    have l1 := (List.getElem?_eq_some_iff.mp h1).1
    have l2 := (List.getElem?_eq_some_iff.mp h2).1
    exact (List.getElem?_inj l1 hnd).mp (h1.trans h2.symm)
  have hend : ∀ (s t : State) (lw' : zW), zPre D dA ad w sz s → zEnd D dA (fun j => ad (zix ix j)) lw (va_A (zw dA (fun j => ad (zix ix j)) lw) sz) lw' t → va_F (va_A (zw dA (fun j => ad (zix ix j)) lw) sz) s t → zEnd D dA ad w (va_A (zw dA ad w) sz) (zput w ix lw' (zrE ix)) t := by
    intro s t lw' hp he hF
    obtain ⟨p1, p2, p3, p4, p5⟩ := hp
    obtain ⟨e1, e2, e3⟩ := he
    have hwhich : ∀ (k : Nat) (q : Nat × va_E), (zw dA ad (zput w ix lw' (zrE ix)))[k]? = some q → q.1 = ad k ∧ ((∃ j : Nat, ix[j]? = some k ∧ (zw dA (fun j => ad (zix ix j)) lw')[j]? = some q) ∨ (k ∉ ix ∧ (zw dA ad w)[k]? = some q)) := by
      intro k q hq
      obtain ⟨e, he, rfl⟩ := zw_of hq
      refine ⟨rfl, ?_⟩
      by_cases hk : k ∈ ix
      · left
        obtain ⟨j, hj⟩ := List.getElem?_of_mem hk
        have hjl : j < lw'.length := by rw [e1, hlen]; exact (List.getElem?_eq_some_iff.mp hj).1
        have hkw : k < w.length := by
          have := (List.getElem?_eq_some_iff.mp he).1
          rw [zput_len] at this; exact this
        have h1 := zput_in ix w lw' (zrE ix) j k lw'[j] hnd hj (List.getElem?_eq_getElem hjl) hkw
        refine ⟨j, hj, ?_⟩
        rw [he] at h1
        rw [zw_at (List.getElem?_eq_getElem hjl), Option.some.inj h1, ze_ze, zix_get hj]
      · right
        refine ⟨hk, ?_⟩
        rw [zput_out ix w lw' (zrE ix) k hk] at he
        exact zw_at he
    refine ⟨zput_len _ _ _ _, fun k q hq => ?_, fun k1 k2 q1 q2 h1 h2 h12 => ?_, fun k q hq => ?_⟩
    · obtain ⟨hq1, ⟨j, hj, hjq⟩ | ⟨hk, hkq⟩⟩ := hwhich k q hq
      · exact e2 j q hjq
      · refine (p2 k q hkq).kept (hF.2 q.1 (p2 k q hkq).lt ?_)
        rintro (⟨j, e, hj⟩ | hge)
        · obtain ⟨k', hk', hk2⟩ := hat j _ hj
          have := p4.1 k k' q (q.1, e) hkq hk2 rfl
          subst this
          exact hk (List.mem_of_getElem? hk')
        · have := (p2 k q hkq).lt
          omega
    · obtain ⟨e9, h1'⟩ := hwhich k1 q1 h1
      obtain ⟨e8, h2'⟩ := hwhich k2 q2 h2
      have hb1 : k1 < w.length := by
        have := (List.getElem?_eq_some_iff.mp h1).1
        rw [zw_len, zput_len] at this; exact this
      have hb2 : k2 < w.length := by
        have := (List.getElem?_eq_some_iff.mp h2).1
        rw [zw_len, zput_len] at this; exact this
      exact p4.1 k1 k2 (ad k1, ze dA ad w[k1]) (ad k2, ze dA ad w[k2]) (zw_at (List.getElem?_eq_getElem hb1)) (zw_at (List.getElem?_eq_getElem hb2)) (by
        show ad k1 = ad k2
        rw [← e9, ← e8]; exact h12)
    · obtain ⟨hq1, -⟩ := hwhich k q hq
      have hb1 : k < w.length := by
        have := (List.getElem?_eq_some_iff.mp hq).1
        rw [zw_len, zput_len] at this; exact this
      rw [hq1]
      exact va_A.in (zw_at (List.getElem?_eq_getElem hb1))
  refine met_mono (h D dA (fun j => ad (zix ix j)) sz) ?_ ?_ hsub
  · rintro a s ⟨h0, p1, p2, p3, p4, p5⟩
    refine ⟨h0, p1, fun j q hq => ?_, p3, ⟨fun j1 j2 q1 q2 h1 h2 h12 => ?_, fun _ _ _ => trivial⟩, ?_⟩
    · obtain ⟨k, -, hk⟩ := hat j q hq
      exact p2 k q hk
    · obtain ⟨k1, g1, hk1⟩ := hat j1 q1 h1
      obtain ⟨k2, g2, hk2⟩ := hat j2 q2 h2
      have := p4.1 k1 k2 q1 q2 hk1 hk2 h12
      subst this
      exact hinj _ _ _ g1 g2
    · obtain ⟨z1, z2, z3⟩ := p5
      exact ⟨z1.narrow hsub, z2.narrow hsub, z3⟩
  · rintro a s o t ⟨h0, hp⟩ ⟨⟨r, lw', h1, h2, h3⟩, h4⟩
    refine ⟨⟨r.map (zv (zix ix)), _, ?_, ⟨r, lw', h2, rfl, h3.1, rfl⟩, hend s t lw' hp h3 h4⟩, h4.1, fun q hq hA => h4.2 q hq (fun z => hA (hsub q z))⟩
    rw [h1, Option.map_map]
    congr 2
    funext v
    exact (zv_zv ad ix v).symm
theorem CanM.fr {l : Launch} {y : MethodName} {ws : List Cond} {d mc ms : Nat} {la av : List Value} {lw w : zW} {Φ Ψ : Option Value → zW → Prop} (h : CanM l y ws d mc ms la lw Φ) (ix : List Nat) (hi : zIn ix lw w) (hav : av = la.map (zv (zix ix))) (hΨ : ∀ o' lw', Φ o' lw' → Ψ (o'.map (zv (zix ix))) (zput w ix lw' (zrE ix))) : CanM l y ws d mc ms av w Ψ := by
  rw [hav]
  refine (h.frame ix hi).mono ?_
  rintro o w' ⟨o', lw', h1, rfl, -, rfl⟩
  exact hΨ o' lw' h1
end CF
