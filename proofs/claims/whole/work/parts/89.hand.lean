/-! METHODS WITH A TABLE OF HANDLERS; calls of such -/
section HH
theorem zL_setN {ad : Nat → Nat} {la la' : Array Slot} {nL i : Nat} {ls : zPL} {u : Value} (h : zL ad la nL ls) (ho : zok1 ls i) (hi : i < ls.length)
    (h' : lv_has la' nL ((i, u) :: (zAs ad 0 ls).filter (fun q => !(q.1 == i) && !(q.1 + 1 == i && q.2.category == 2)))) : zL ad la' nL (ls.set i none) := by
  refine ⟨by rw [List.length_set]; exact h.1, h'.1, h'.2.1, fun q hq => ?_⟩
  obtain ⟨k, u, e1, e2⟩ := (zAs_mem ad q _ 0).mp hq
  rw [Nat.zero_add] at e2
  rw [List.getElem?_set] at e1
  by_cases hk : i = k
  · subst hk
    rw [if_pos rfl, if_pos hi] at e1
    cases e1
  · rw [if_neg hk] at e1
    refine h'.2.2 q (List.mem_cons_of_mem _ (List.mem_filter.mpr ⟨(zAs_mem ad q ls 0).mpr ⟨k, u, e1, by rw [e2, Nat.zero_add]⟩, ?_⟩))
    rw [e2]
    simp only [Bool.and_eq_true, Bool.not_eq_true', beq_eq_false_iff_ne, ne_eq, Bool.and_eq_false_iff]
    refine ⟨fun e => hk e.symm, ?_⟩
    by_cases h3 : k + 1 = i
    · right
      have := zok1_cat ho e1 h3
      rw [zv_cat, this]; decide
    · left; exact h3
/-- what is done with a throw that the table catches: its handler begins by a store, and goes on behind it -/
def zHan : List (String × Nat × Nat) → zXH
  | [], _, _, _, _, _, _ => False
  | (E', pc', i) :: r, K, ls, E, w, k, n => (E = E' ∧ (i < ls.length ∧ zok1 ls i) ∧ K pc' (ls.set i none) [] w k n) ∨ zHan r K ls E w k n
/-- the rows of the table, and the handlers -/
def zHm (cc : ByteArray) (ws : List Cond) (own : String) (pc : Nat) : List (Nat × Nat × Nat × Nat) → List (String × Nat × Nat) → Prop
  | (a, b, h, t) :: r, (E, pc', i) :: r' => ((a ≤ pc ∧ pc < b) ∧ t ≠ 0 ∧ Cond.classLink own t E ∈ ws ∧ E ∈ zX3 ∧ ((decode cc h = .ok (.astore i, 2) ∧ pc' = h + 2) ∨ (∃ q : Fin 4, decode cc h = .ok (.astore_n q, 1) ∧ (q : Nat) = i ∧ pc' = h + 1)) ∧ ∀ x ∈ r', x.1 ≠ E) ∧ zHm cc ws own pc r r'
  | [], [] => True
  | _, _ => False
theorem zHan_mem : ∀ {hs : List (String × Nat × Nat)} {K : zK} {ls : zPL} {E : String} {w : zW} {k n : Nat}, zHan hs K ls E w k n → ∃ x ∈ hs, x.1 = E
  | [], _, _, _, _, _, _, h => h.elim
  | (E', pc', i) :: r, K, ls, E, w, k, n, h => by
    rcases h with ⟨e, -⟩ | h
    · exact ⟨_, List.mem_cons_self, e.symm⟩
    · obtain ⟨x, hx, e⟩ := zHan_mem (hs := r) h
      exact ⟨x, List.mem_cons_of_mem _ hx, e⟩
theorem zHm_in {cc : ByteArray} {ws : List Cond} {own : String} {pc : Nat} : ∀ {rows : List (Nat × Nat × Nat × Nat)} {hs : List (String × Nat × Nat)}, zHm cc ws own pc rows hs → ∀ x ∈ hs, x.1 ∈ zX3
  | [], [], _, x, hx => nomatch hx
  | _ :: _, [], h, _, _ => h.elim
  | [], _ :: _, h, _, _ => h.elim
  | (a, b, h, t) :: r, (E, pc', i) :: r', hh, x, hx => by
    rcases List.mem_cons.mp hx with rfl | hx
    · exact hh.1.2.2.2.1
    · exact zHm_in (rows := r) hh.2 x hx
def zHt (X : zM) (hh : List (Nat × Nat × Nat × Nat)) : Prop := match X with
  | ((p, l, e, R), (s, m, args, below, meth, c), (D, dA, A, nL, Q), (ad0, N0)) => c.exceptionTable.toList = tableOf hh
theorem zHan_go {p : Program} {l : Launch} {e : Env} {R : Room} {s : State} {m : MethodId} {args : Array Value} {below : List Frame} {meth : Method} {c : Code} {D : va_G} {dA : Nat → ClassId} {A : Nat → Prop} {nL : Nat} {Q : State → Prop} {ad0 : Nat → Nat} {N0 : Nat} {cc : ByteArray} {ws : List Cond} {own : String} {d MC MS : Nat} {pc : Nat}
    (C : zB ((p, l, e, R), (s, m, args, below, meth, c), (D, dA, A, nL, Q), (ad0, N0)) cc ws own d MC MS) : ∀ (rows : List (Nat × Nat × Nat × Nat)) (hs : List (String × Nat × Nat)) (pre : List ExceptionTableEntry), zHm cc ws own pc rows hs → c.exceptionTable.toList = pre ++ tableOf rows →
    ∀ (K : zK), (∀ j ls st w k n, K j ls st w k n → zAt ((p, l, e, R), (s, m, args, below, meth, c), (D, dA, A, nL, Q), (ad0, N0)) j ls st w k n) → ∀ ls E w k n, (∀ z ∈ pre, covers z pc = false ∨ (z.catchType ≠ 0 ∧ ∃ nm : String, (Cond.classLink own z.catchType nm).before args s = true ∧ va_Nc E nm s)) → zHan hs K ls E w k n → zXat ((p, l, e, R), (s, m, args, below, meth, c), (D, dA, A, nL, Q), (ad0, N0)) pc ls w k n E := by
  obtain ⟨hx, hb, hml, hts, hown, hK, hlk, hA, hZ, hR, hfl⟩ := C
  intro rows
  induction rows with
  | nil =>
    intro hs pre hm hsp K hJ ls E w k n hpre hh
    cases hs with
    | nil => exact hh.elim
    | cons a r => exact hm.elim
  | cons row rows ih =>
    intro hs pre hm hsp K hJ ls E w k n hpre hh
    cases hs with
    | nil => exact hh.elim
    | cons h0 hs =>
      obtain ⟨a, b, h, t⟩ := row
      obtain ⟨E', pc', i⟩ := h0
      obtain ⟨⟨⟨c1, c2⟩, c3, c4, c5, c6, c7⟩, c8⟩ := hm
      rcases hh with ⟨rfl, ⟨h1, h2⟩, hK9⟩ | hh
      · intro ad H locs la st q ce hag hN hP hD hS hl hce hcv hcl
        refine vx_catch (name := E) hown pre ⟨a, b, h, t⟩ (tableOf rows) hsp hpre ?_ c3 (hts _ c4) (va_Nw.use rfl (hZ.2.2.2.1 E c5)) hce hcv hcl ?_
        · show (decide (a ≤ pc) && decide (pc < b)) = true
          rw [decide_eq_true c1, decide_eq_true c2]; rfl
        · have go : ∀ la' : Array Slot, lv_has la' nL ((i, Value.ref q) :: (zAs ad 0 ls).filter (fun q => !(q.1 == i) && !(q.1 + 1 == i && q.2.category == 2))) → W p l e R s m args below meth c H locs k n Q (F0 m pc' la' []) := fun la' hl' => hJ _ _ _ _ _ _ hK9 ad H locs la' hag hN hP hD hS (zL_setN hl h2 h1 hl')
          rcases c6 with ⟨d1, rfl⟩ | ⟨q9, d1, d2, rfl⟩
          · exact lv_astore hx hb d1 hl.2 (by rw [← hl.1]; exact h1) rfl go
          · exact lv_astore_n hx hb d1 d2 hl.2 (by rw [← hl.1]; exact h1) rfl go
      · refine ih hs (pre ++ [⟨a, b, h, t⟩]) c8 (by rw [hsp, List.append_assoc]; rfl) K hJ ls E w k n (fun z hz => ?_) hh
        rcases List.mem_append.mp hz with hz | hz
        · exact hpre z hz
        · have hz : z = ⟨a, b, h, t⟩ := by simpa using hz
          subst hz
          obtain ⟨x, hx1, hx2⟩ := zHan_mem hh
          exact Or.inr ⟨c3, E', hts _ c4, hZ.2.2.2.2.1 E (hx2 ▸ zHm_in c8 x hx1) E' c5 (fun e => c7 x hx1 (hx2.trans e))⟩
theorem zXok_han {X : zM} {cc : ByteArray} {ws : List Cond} {own : String} {d MC MS pc : Nat} (C : zB X cc ws own d MC MS) {rows : List (Nat × Nat × Nat × Nat)} (hs : List (String × Nat × Nat)) (ht : zHt X rows) (hm : zHm cc ws own pc rows hs) : zXok X pc MC MS (zHan hs) := by
  obtain ⟨⟨p, l, e, R⟩, ⟨s, m, args, below, meth, c⟩, ⟨D, dA, A, nL, Q⟩, ad0, N0⟩ := X
  intro K hJ ls E w k n hh _ _
  exact zHan_go C rows hs [] hm ht K hJ ls E w k n (fun z hz => nomatch hz) hh
theorem zMethH {l : Launch} {y : MethodName} {ws ws' : List Cond} {cc : ByteArray} {maxL d mc ms : Nat} {ret : Option FieldType} {hh : List (Nat × Nat × Nat × Nat)} {av : List Value} {w : zW} {Φ : zO → zW → Prop} {lv : zPL} (hfl : l.stackTraces = false) (hy : plainName y.cls = true) (hw : ws = Cond.codeWith y cc maxL ret hh :: ws') (hlen : lv.length = maxL)
    (hlv : ∀ ad : Nat → Nat, lv_args 0 (av.map (zv ad)) = zAs ad 0 lv) (hsl : ∀ ad : Nat → Nat, (lg_sl (av.map (zv ad))).length ≤ maxL)
    (body : ∀ X : zM, X.1.2.1 = l → zB X cc ws y.cls d mc ms → zM9 X ret w mc ms Φ → zHt X hh → zAt X 0 lv [] w 0 0) : Can l y ws d mc ms av w Φ := by
  intro D dA ad sz
  refine vx_ofWH (cc := cc) (maxL := maxL) (ret := ret) (hh := hh) hy hw ?_
  intro p e s m args below meth c s₁ B hml hv
  obtain ⟨rfl, rfl, h1, h2, h3, h4⟩ := hv
  have hts : ∀ w ∈ ws, w.before ((av.map (zv ad)).toArray) s = true := atoms_spec (ws := ws) B.pre
  have ht : c.exceptionTable.toList = tableOf hh := vx_table (x := y) B (hts _ (by rw [hw]; exact List.mem_cons_self))
  have h := body ((p, l, e, (headSpec ws (zRoom d mc ms)).room), (s, m, ((av.map (zv ad)).toArray), below, meth, c), (D, dA, va_A (zw dA ad w) s.heap.size, maxL, vx_MQ below (zQ D dA ad w (va_A (zw dA ad w) s.heap.size) Φ) (zXc D dA ad w (va_A (zw dA ad w) s.heap.size) Φ) (av.map (zv ad)).toArray s mc ms (va_A (zw dA ad w) s.heap.size)), (ad, w.length)) rfl
    ⟨B.exec, B.bytes, hml, hts, findClass_of_methodNamed B.named, h2, B.notSynchronized, fun q hq => Or.inr hq, h4, ⟨Nat.le_refl _, Nat.le_refl _, Nat.le_refl _, Nat.le_refl _⟩, hfl⟩
    ⟨B.returns, rfl, fun H locs g k => vx_ret k⟩ ht
  have hl := lv_entry (av.map (zv ad)) (n := maxL) (hsl ad)
  rw [hlv ad] at hl
  rw [lg_entry_eq]
  exact h ad s.heap [] _ (fun _ _ => rfl) (Nat.le_refl _) h1 h3.self va_S.rf ⟨hlen, hl⟩
/-- what never throws -/
theorem Can.toM {l : Launch} {y : MethodName} {ws : List Cond} {d mc ms : Nat} {av : List Value} {w : zW} {Φ : zO → zW → Prop} (h : Can l y ws d mc ms av w Φ) (hn : ∀ E w', ¬ Φ (.inr E) w') : CanM l y ws d mc ms av w (fun r w' => Φ (.inl r) w') := by
  intro D dA ad sz p e h1 h2 h3 s m args below h4 h5 h6 h7
  obtain ⟨n, o, k1, k2, k3, k4⟩ := h D dA ad sz p e h1 h2 h3 s m args below h4 h5 h6 h7
  rcases k4 with ⟨q1, L, q2, q3⟩ | ⟨q, q1, E, ce, L, ⟨⟨w', q2, -⟩, -⟩, -⟩
  · exact ⟨n, o, k1, k2, k3, q1, L, q2, q3⟩
  · exact absurd q2 (hn E w')
/-- a static call of a method with a table, which always returns -/
theorem zo_callSH {X : zM} {cc : ByteArray} {ws : List Cond} {own : String} {d MC MS : Nat} {pc : Nat} (C : zB X cc ws own d MC MS) {i na maxL : Nat} {y : MethodName} {wsy ws9 : List Cond} {bytes : ByteArray} {rt : Option FieldType} {hh : List (Nat × Nat × Nat × Nat)} (hd : decode cc pc = .ok (.invokestatic i, 3)) (hG : GoodIn ws (va_wsS own i y wsy)) (hw : wsy = Cond.codeWith y bytes maxL rt hh :: ws9) (hdd : y.cls ≠ "java/lang/invoke/MethodHandle" ∧ y.cls ≠ "java/lang/invoke/VarHandle" ∧ (parseMethodDescriptor y.desc).map (fun d => d.parameters.length) = some na) (hm9 : maxL ≤ 45) : zOk X pc (oCallM X.1.2.1 y wsy na d MC MS) (pc + 3) := by
  obtain ⟨⟨p, l, e, R⟩, ⟨s, m, args, below, meth, c⟩, ⟨D, dA, A, nL, Q⟩, ad0, N0⟩ := X
  obtain ⟨hx, hb, hml, hts, hown, hK, hlk, hA, hZ, hR, hfl⟩ := C
  intro K nx hJ hn ls st w k n h ad H locs la hag hN hP hD hS hl
  unfold oCallM at h
  split at h
  · rename_i av rest hpop
    obtain ⟨hs9, d', mc', ms', ⟨r1, r2, r3⟩, hcan⟩ := h
    have hc9 := zShort_le hs9
    obtain ⟨a9, g1, g2, g3⟩ := zpop_eq _ _ _ _ _ hpop
    rw [List.append_nil] at g1
    subst g1
    subst g2
    have hsub := z_sub hA hD hS
    have run := vx_runSW (hh := hh) (p := p) (e := e) (meth := meth) (below := below) (As := av.map (zv ad)) (rest := rest.map (zv ad)) (locs := locs) (cells := k) (slots := n) (g := F0 m pc la (av.reverse.map (zv ad) ++ rest.map (zv ad))) ⟨hx, hb, hml, hown, hts⟩ (hcan D dA ad H.size) (vx_cwSW na hts hG hw rfl rfl hdd ⟨by show d' + 1 ≤ R.frames; omega, by show 8 + (maxL + 11) + 64 * d' ≤ R.locals; omega⟩) ⟨zPre_blind _ _ _ _ _ _, z_pre _ hK hZ hP hD hS hsub⟩ rfl (by rw [List.length_map]; exact g3) hl.2.1 (by simp) (by rw [zs_cat, show JFrame.monitorRoom (F0 m pc la (av.reverse.map (zv ad) ++ rest.map (zv ad))) = 0 from rfl]; omega) hd ⟨by omega, by omega⟩
    rw [List.map_append]
    exact zm_after rfl run hn hsub hag hN hS hl
  · exact h.elim
end HH
