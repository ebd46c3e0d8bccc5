/-! CONSTRUCTORS: their call -/
section CI2
theorem zo_callI {X : zM} {cc : ByteArray} {ws : List Cond} {own : String} {d MC MS : Nat} {pc : Nat} (C : zB X cc ws own d MC MS) {i na maxL : Nat} {y : MethodName} {wsy ws9 : List Cond} {bytes : ByteArray} {host : String} (hd : decode cc pc = .ok (.invokespecial i, 3)) (hyn : y.name = "<init>") (hlk9 : Cond.methodLinkNest own i y host ∈ tables_1) (hG : GoodIn ws wsy) (hst : Cond.instanceMethod y ∈ ws) (hi9 : Cond.initialized y.cls ∈ ws) (hw : wsy = Cond.code y bytes maxL none :: ws9) (hdd : y.cls ≠ "java/lang/invoke/MethodHandle" ∧ y.cls ≠ "java/lang/invoke/VarHandle" ∧ (parseMethodDescriptor y.desc).map (fun d => d.parameters.length) = some na) (hm9 : maxL ≤ 45) : zOk X pc (oCallI X.1.2.1 y wsy (na + 1) d MC MS) (pc + 3) := by
  obtain ⟨⟨p, l, e, R⟩, ⟨s, m, args, below, meth, c⟩, ⟨D, dA, A, nL, Q⟩, ad0, N0⟩ := X
  obtain ⟨hx, hb, hml, hts, hown, hK, hlk, hA, hZ, hR, hfl⟩ := C
  intro K nx hJ hn ls st w k n h ad H locs la hag hN hP hD hS hl
  unfold oCallI at h
  split at h
  · rename_i av rest hpop
    obtain ⟨⟨hs9, ⟨a, as, hav⟩, hcw, hcl, hcs⟩, d', mc', ms', ⟨r1, r2, r3⟩, hcan⟩ := h
    have hc9 := zShort_le hs9
    obtain ⟨a9, g1, g2, g3⟩ := zpop_eq _ _ _ _ _ hpop
    rw [List.append_nil] at g1
    subst g1
    subst g2
    have hsub := z_sub hA hD hS
    subst hav
    have run := va_runIN (p := p) (e := e) (meth := meth) (below := below) (b := ad a) (As := as.map (zv ad)) (rest := rest.map (zv ad)) (locs := locs) (cells := k) (slots := n) (g := F0 m pc la ((Value.ref a :: as).reverse.map (zv ad) ++ rest.map (zv ad))) ⟨hx, hb, hml, hown, hts⟩ (hcan D dA ad H.size) ⟨va_cnB na hts hG hw rfl rfl (hZ.2.2.2.2.2.2.1 _ _ _ _ hlk9) (hts _ hi9) hdd ⟨by show d' + 1 ≤ R.frames; omega, by show 8 + (maxL + 11) + 64 * d' ≤ R.locals; omega⟩, hyn, hts _ hst⟩ ⟨zPre_blind _ _ _ _ _ _, z_pre _ hK hZ hP hD hS hsub⟩ rfl (by rw [List.length_map]; simpa using g3) hl.2.1 (by simp [zv]) (by rw [zs_cat, show JFrame.monitorRoom (F0 m pc la ((Value.ref a :: as).reverse.map (zv ad) ++ rest.map (zv ad))) = 0 from rfl]; omega) hd ⟨by omega, by omega⟩
    rw [List.map_append]
    intro T hT X9
    obtain ⟨v, st₀, t, T', L, h0, X', hL, e1, e2, ⟨⟨w', ad', hv, hΦ, hlen, hz, hP', hD'⟩, hF⟩, stp⟩ := run T hT X9
    obtain ⟨-, -, k3⟩ := vx_keep h0 e1 hS (fun q _ h => hsub q h) hsub hL hF
    have hadk : ∀ j : Nat, j < w.length → ad' j = ad j := fun j hj => hz j (Or.inl hj)
    have hz2 := hn ls rest w' (k + mc') (n + ms') hΦ ad' T'.heap (locs ++ L) la (fun j hj => (hz j (hj.elim (fun q => Or.inl (Nat.lt_of_lt_of_le q hN)) (fun q => Or.inr q))).trans (hag j (hj.elim Or.inl (fun q => Or.inr (Nat.le_trans hlen q))))) (Nat.le_trans hN hlen) (by rw [e1]; exact hP') (hD'.weaken (fun _ q _ h => hsub q.1 h)) k3 (zL_ag hadk hl hcl)
    obtain ⟨t2, a1, b1⟩ := hz2 T' rfl X'
    have hv2 : v = none := by
      have := hv
      injection this
    subst hv2
    rw [zs_ag hadk hcs] at a1
    exact ⟨t2, stp t2 a1, b1⟩
  · exact h.elim
end CI2
