/-! THE LAYER, 2: the machine's context, and an instruction as a step of predicates -/
section ZZ2
def zTys (dA : Nat → ClassId) : List (ClassId × FieldType) := [(dA 0, .int), (dA 1, .int), (dA 2, .int), (dA 3, .byte), (dA 4, .int), (dA 5, .object "EdgeTasks$Plant")]
def zX3 : List String := ["java/lang/IllegalArgumentException", "java/lang/IndexOutOfBoundsException", "java/lang/IllegalStateException"]
def zY3 : List MethodName := [Bundle.initS "java/lang/RuntimeException", Bundle.initS "java/lang/Exception", Bundle.initS "java/lang/Throwable"]
def zStat (A : Nat → Prop) (U : State) : Prop := vx_Zq Bundle.tN "UNASSIGNED_STACK" Bundle.steD A U U.heap ∧ vx_Zq Bundle.tN "SUPPRESSED_SENTINEL" Bundle.listD A U U.heap ∧ (∀ (k : Nat) (tx : String), Cond.stringRef RX7 k tx ∈ tables_1 → ∃ a, vk_R RX7 k tx a U) ∧ (∀ E ∈ zX3, va_Nw (.castable E E) U) ∧ True ∧ va_AO RX5 U ∧ (∀ (a : String) (i : Nat) (y : MethodName) (h : String), Cond.methodLinkNest a i y h ∈ tables_1 → va_Nw (.methodLinkNest a i y h) U) ∧ (∀ x ∈ zY3, va_Nw (.declares x) U)
/-- from a start to a later state of the same run -/
theorem zStat.at {A B : Nat → Prop} {s U : State} (h : zStat A s) (hW : s.WarmedH U.vm) (hq : ∀ a : Nat, a < s.heap.size → ¬ A a → U.heap[a]? = s.heap[a]?) (hAB : ∀ q, B q → A q) : zStat B U := by
  obtain ⟨h1, h2, h3, h4, h5, h6, h7, h8⟩ := h
  exact ⟨((h1.kept hq).moved hW.alike).narrow hAB, ((h2.kept hq).moved hW.alike).narrow hAB, fun k tx hk => (h3 k tx hk).elim fun a ha => ⟨a, ha.warm hW⟩, fun E hE => va_Nw.warmC hW (h4 E hE), trivial, h6.moved hW.alike, fun a i y h hm => va_Nw.warmM hW (h7 a i y h hm), fun x hx => va_Nw.warmD hW (h8 x hx)⟩
theorem zStat.calling {A : Nat → Prop} {U : State} (h : zStat A U) (g : JFrame) (mk : MethodId) (a : Array Value) : zStat A (U.calling g mk a) := by
  obtain ⟨h1, h2, h3, h4, h5, h6, h7, h8⟩ := h
  exact ⟨vx_Zq.moved (u := U) (U := U.calling g mk a) (Vm.Alike.refl U.vm) h1, vx_Zq.moved (u := U) (U := U.calling g mk a) (Vm.Alike.refl U.vm) h2, fun k tx hk => (h3 k tx hk).elim fun b hb => ⟨b, vk_R.same (u := U) (U := U.calling g mk a) rfl hb⟩, fun E hE => va_Nw.same (u := U) (U := U.calling g mk a) rfl rfl (h4 E hE), trivial, va_AO.moved (u := U) (U := U.calling g mk a) (Vm.Alike.refl U.vm) h6, fun b i y h hm => va_Nw.same (u := U) (U := U.calling g mk a) rfl rfl (h7 b i y h hm), fun x hx => va_Nw.same (u := U) (U := U.calling g mk a) rfl rfl (h8 x hx)⟩
def zag (N0 n : Nat) (ad ad0 : Nat → Nat) : Prop := ∀ k : Nat, (k < N0 ∨ n ≤ k) → ad k = ad0 k
abbrev zM : Type := (Program × Launch × Env × Room) × (State × MethodId × Array Value × List Frame × Method × Code) × (va_G × (Nat → ClassId) × (Nat → Prop) × Nat × (State → Prop)) × ((Nat → Nat) × Nat)
def zAt : zM → Nat → zPL → List Value → zW → Nat → Nat → Prop := fun X pc ls st w k n => match X with
  | ((p, l, e, R), (s, m, args, below, meth, c), (D, dA, A, nL, Q), (ad0, N0)) => ∀ (ad : Nat → Nat) (H : Heap) (locs : List Loc) (la : Array Slot), zag N0 w.length ad ad0 → N0 ≤ w.length → va_P D vwCl (zw dA ad w) H → va_D A (zw dA ad w) → va_S A s.heap H locs → zL ad la nL ls → W p l e R s m args below meth c H locs k n Q (F0 m pc la (st.map (zv ad)))
def zB (X : zM) (cc : ByteArray) (ws : List Cond) (own : String) (d MC MS : Nat) : Prop := match X with
  | ((p, l, e, R), (s, m, args, below, meth, c), (D, dA, A, nL, Q), (ad0, N0)) => p.tables.exec = Jvm.exec ∧ c.code = cc ∧ c.maxLocals = nL ∧ (∀ w ∈ ws, w.before args s = true) ∧ s.vm.findClass own = some m.cls ∧ va_K D vwCl (zTys dA) s ∧ meth.locks = false ∧ (∀ q : Nat, s.heap.size ≤ q → A q) ∧ zStat A s ∧ (d ≤ R.frames ∧ 64 * d ≤ R.locals ∧ MC ≤ R.cells ∧ MS ≤ R.slots) ∧ l.stackTraces = false
abbrev zNx : Type := zPL → List Value → zW → Nat → Nat → Prop
abbrev zK : Type := Nat → zNx
abbrev zOp : Type := zK → zNx → zNx
def zOk (X : zM) (pc : Nat) (op : zOp) (pc' : Nat) : Prop := ∀ (K : zK) (nx : zNx), (∀ j ls st w k n, K j ls st w k n → zAt X j ls st w k n) → (∀ ls st w k n, nx ls st w k n → zAt X pc' ls st w k n) → ∀ ls st w k n, op K nx ls st w k n → zAt X pc ls st w k n
def zwp : List zOp → zK → zNx
  | [], _, _, _, _, _, _ => False
  | op :: r, K, ls, st, w, k, n => op K (zwp r K) ls st w k n
def zBlk (X : zM) (pc : Nat) (ops : List zOp) : Prop := ∀ K : zK, (∀ j ls st w k n, K j ls st w k n → zAt X j ls st w k n) → ∀ ls st w k n, zwp ops K ls st w k n → zAt X pc ls st w k n
theorem zb_cons {X : zM} {pc pc' : Nat} {op : zOp} {r : List zOp} (h : zOk X pc op pc') (hr : zBlk X pc' r) : zBlk X pc (op :: r) := fun K hK ls st w k n hw => h K (zwp r K) hK (fun ls st w k n hn => hr K hK ls st w k n hn) ls st w k n hw
theorem zb_last {X : zM} {pc pc' : Nat} {op : zOp} (h : zOk X pc op pc') : zBlk X pc [op] := zb_cons h (fun _ _ _ _ _ _ _ h => h.elim)
def oJump (pc : Nat) (K : zK) (_ : zNx) (ls : zPL) (st : List Value) (w : zW) (k n : Nat) : Prop := K pc ls st w k n
theorem zb_jump {X : zM} {pc : Nat} : zBlk X pc [oJump pc] := fun _ hK ls st w k n h => hK pc ls st w k n h
theorem zAt_sub {X : zM} {pc : Nat} {ls ls' : zPL} {st : List Value} {w : zW} {k n : Nat} (hs : zsub ls' ls) (h : zAt X pc ls' st w k n) : zAt X pc ls st w k n := by
  obtain ⟨⟨p, l, e, R⟩, ⟨s, m, args, below, meth, c⟩, ⟨D, dA, A, nL, Q⟩, ad0, N0⟩ := X
  intro ad H locs la hag hN hP hD hS hl
  exact h ad H locs la hag hN hP hD hS (zL_sub hl hs)
def zWk (K : zK) : Prop := ∀ (pc : Nat) (ls ls' : zPL) (st : List Value) (w : zW) (k n : Nat), zsub ls' ls → K pc ls' st w k n → K pc ls st w k n
/-- a place of a list -/
def zg {α : Type} : List α → Nat → Option α
  | [], _ => none
  | x :: _, 0 => some x
  | _ :: r, k + 1 => zg r k
theorem zg_eq {α : Type} : ∀ (l : List α) (i : Nat), zg l i = l[i]?
  | [], i => by rw [zg]; simp
  | y :: _, 0 => rfl
  | _ :: r, k + 1 => by
    show zg r k = r[k]?
    exact zg_eq r k
theorem zg_some {α : Type} {x : α} {l : List α} {i : Nat} (h : zg l i = some x) : l[i]? = some x := by rw [← zg_eq]; exact h
def zShort : List Value → Bool
  | [] => true
  | [_] => true
  | [_, _] => true
  | [_, _, _] => true
  | [_, _, _, _] => true
  | _ => false
theorem zShort_le {st : List Value} (h : zShort st = true) : (st.map fun v => v.category).sum ≤ 8 := by
  have hl : st.length ≤ 4 := by
    match st, h with
    | [], _ => simp
    | [_], _ => simp
    | [_, _], _ => simp
    | [_, _, _], _ => simp
    | [_, _, _, _], _ => simp
  have := cat_sum st
  omega
theorem zls_lt {ls : zPL} {i : Nat} {v : Value} (h : ls[i]? = some (some v)) : i < ls.length := (List.getElem?_eq_some_iff.mp h).1
def oPush (v : Value) (_ : zK) (nx : zNx) (ls : zPL) (st : List Value) (w : zW) (k n : Nat) : Prop := nx ls (v :: st) w k n
theorem zo_iconst {X : zM} {cc : ByteArray} {ws : List Cond} {own : String} {d MC MS : Nat} {pc : Nat} (C : zB X cc ws own d MC MS) {z : Int} {v : Int32} (hd : decode cc pc = .ok (.iconst z, 1)) (hv : Int32.ofInt z = v) : zOk X pc (oPush (.int v)) (pc + 1) := by
  obtain ⟨⟨p, l, e, R⟩, ⟨s, m, args, below, meth, c⟩, ⟨D, dA, A, nL, Q⟩, ad0, N0⟩ := X
  obtain ⟨hx, hb, hml, hts, hown, hK, hlk, hA, hZ, hR, hfl⟩ := C
  intro K nx hJ hn ls st w k n h ad H locs la hag hN hP hD hS hl
  exact lv_iconst hx hb hd hv (hn _ _ _ _ _ h ad H locs la hag hN hP hD hS hl)
theorem zo_bipush {X : zM} {cc : ByteArray} {ws : List Cond} {own : String} {d MC MS : Nat} {pc : Nat} (C : zB X cc ws own d MC MS) {z : Int} {v : Int32} (hd : decode cc pc = .ok (.bipush z, 2)) (hv : (Int8.ofInt z).toInt32 = v) : zOk X pc (oPush (.int v)) (pc + 2) := by
  obtain ⟨⟨p, l, e, R⟩, ⟨s, m, args, below, meth, c⟩, ⟨D, dA, A, nL, Q⟩, ad0, N0⟩ := X
  obtain ⟨hx, hb, hml, hts, hown, hK, hlk, hA, hZ, hR, hfl⟩ := C
  intro K nx hJ hn ls st w k n h ad H locs la hag hN hP hD hS hl
  exact lv_bipush hx hb hd hv (hn _ _ _ _ _ h ad H locs la hag hN hP hD hS hl)
theorem zo_sipush {X : zM} {cc : ByteArray} {ws : List Cond} {own : String} {d MC MS : Nat} {pc : Nat} (C : zB X cc ws own d MC MS) {z : Int} {v : Int32} (hd : decode cc pc = .ok (.sipush z, 3)) (hv : (Int16.ofInt z).toInt32 = v) : zOk X pc (oPush (.int v)) (pc + 3) := by
  obtain ⟨⟨p, l, e, R⟩, ⟨s, m, args, below, meth, c⟩, ⟨D, dA, A, nL, Q⟩, ad0, N0⟩ := X
  obtain ⟨hx, hb, hml, hts, hown, hK, hlk, hA, hZ, hR, hfl⟩ := C
  intro K nx hJ hn ls st w k n h ad H locs la hag hN hP hD hS hl
  exact lv_sipush hx hb hd hv (hn _ _ _ _ _ h ad H locs la hag hN hP hD hS hl)
theorem zo_ldc {X : zM} {cc : ByteArray} {ws : List Cond} {own : String} {d MC MS : Nat} {pc : Nat} (C : zB X cc ws own d MC MS) {i : Nat} {v : Int32} (hd : decode cc pc = .ok (.ldc i, 2)) (hc : Cond.constant own i v ∈ ws) : zOk X pc (oPush (.int v)) (pc + 2) := by
  obtain ⟨⟨p, l, e, R⟩, ⟨s, m, args, below, meth, c⟩, ⟨D, dA, A, nL, Q⟩, ad0, N0⟩ := X
  obtain ⟨hx, hb, hml, hts, hown, hK, hlk, hA, hZ, hR, hfl⟩ := C
  intro K nx hJ hn ls st w k n h ad H locs la hag hN hP hD hS hl
  exact lv_ldc hx hb hown (hts _ hc) hd (hn _ _ _ _ _ h ad H locs la hag hN hP hD hS hl)
theorem zo_ldcw {X : zM} {cc : ByteArray} {ws : List Cond} {own : String} {d MC MS : Nat} {pc : Nat} (C : zB X cc ws own d MC MS) {i : Nat} {v : Int32} (hd : decode cc pc = .ok (.ldc_w i, 3)) (hc : Cond.constant own i v ∈ ws) : zOk X pc (oPush (.int v)) (pc + 3) := by
  obtain ⟨⟨p, l, e, R⟩, ⟨s, m, args, below, meth, c⟩, ⟨D, dA, A, nL, Q⟩, ad0, N0⟩ := X
  obtain ⟨hx, hb, hml, hts, hown, hK, hlk, hA, hZ, hR, hfl⟩ := C
  intro K nx hJ hn ls st w k n h ad H locs la hag hN hP hD hS hl
  exact lv_ldcw hx hb hown (hts _ hc) hd (hn _ _ _ _ _ h ad H locs la hag hN hP hD hS hl)
theorem zo_ldc2 {X : zM} {cc : ByteArray} {ws : List Cond} {own : String} {d MC MS : Nat} {pc : Nat} (C : zB X cc ws own d MC MS) {i : Nat} {v : Int64} (hd : decode cc pc = .ok (.ldc2_w i, 3)) (hc : Cond.constantLong own i v ∈ ws) : zOk X pc (oPush (.long v)) (pc + 3) := by
  obtain ⟨⟨p, l, e, R⟩, ⟨s, m, args, below, meth, c⟩, ⟨D, dA, A, nL, Q⟩, ad0, N0⟩ := X
  obtain ⟨hx, hb, hml, hts, hown, hK, hlk, hA, hZ, hR, hfl⟩ := C
  intro K nx hJ hn ls st w k n h ad H locs la hag hN hP hD hS hl
  exact lv_ldc2 hx hb hown (hts _ hc) hd (hn _ _ _ _ _ h ad H locs la hag hN hP hD hS hl)
theorem zo_lconst {X : zM} {cc : ByteArray} {ws : List Cond} {own : String} {d MC MS : Nat} {pc : Nat} (C : zB X cc ws own d MC MS) {z : Fin 2} {v : Int64} (hd : decode cc pc = .ok (.lconst z, 1)) (hv : Int64.ofNat (z : Nat) = v) : zOk X pc (oPush (.long v)) (pc + 1) := by
  obtain ⟨⟨p, l, e, R⟩, ⟨s, m, args, below, meth, c⟩, ⟨D, dA, A, nL, Q⟩, ad0, N0⟩ := X
  obtain ⟨hx, hb, hml, hts, hown, hK, hlk, hA, hZ, hR, hfl⟩ := C
  intro K nx hJ hn ls st w k n h ad H locs la hag hN hP hD hS hl
  exact lv_lconst hx hb hd hv (hn _ _ _ _ _ h ad H locs la hag hN hP hD hS hl)
theorem zo_dconst0 {X : zM} {cc : ByteArray} {ws : List Cond} {own : String} {d MC MS : Nat} {pc : Nat} (C : zB X cc ws own d MC MS) (hd : decode cc pc = .ok (.dconst 0, 1)) : zOk X pc (oPush (.double FP.dconst0)) (pc + 1) := by
  obtain ⟨⟨p, l, e, R⟩, ⟨s, m, args, below, meth, c⟩, ⟨D, dA, A, nL, Q⟩, ad0, N0⟩ := X
  obtain ⟨hx, hb, hml, hts, hown, hK, hlk, hA, hZ, hR, hfl⟩ := C
  intro K nx hJ hn ls st w k n h ad H locs la hag hN hP hD hS hl
  exact lv_dconst0 hx hb hd (hn _ _ _ _ _ h ad H locs la hag hN hP hD hS hl)
theorem zo_dconst1 {X : zM} {cc : ByteArray} {ws : List Cond} {own : String} {d MC MS : Nat} {pc : Nat} (C : zB X cc ws own d MC MS) (hd : decode cc pc = .ok (.dconst 1, 1)) : zOk X pc (oPush (.double FP.dconst1)) (pc + 1) := by
  obtain ⟨⟨p, l, e, R⟩, ⟨s, m, args, below, meth, c⟩, ⟨D, dA, A, nL, Q⟩, ad0, N0⟩ := X
  obtain ⟨hx, hb, hml, hts, hown, hK, hlk, hA, hZ, hR, hfl⟩ := C
  intro K nx hJ hn ls st w k n h ad H locs la hag hN hP hD hS hl
  exact lv_dconst1 hx hb hd (hn _ _ _ _ _ h ad H locs la hag hN hP hD hS hl)
def oILoad (i : Nat) (_ : zK) (nx : zNx) (ls : zPL) (st : List Value) (w : zW) (k n : Nat) : Prop := match zg ls i with
  | some (some (.int x)) => nx ls (.int x :: st) w k n
  | _ => False
theorem zo_iload_n {X : zM} {cc : ByteArray} {ws : List Cond} {own : String} {d MC MS : Nat} {pc : Nat} (C : zB X cc ws own d MC MS) {q : Fin 4} {i : Nat} (hd : decode cc pc = .ok (.iload_n q, 1)) (hi : (q : Nat) = i) : zOk X pc (oILoad i) (pc + 1) := by
  obtain ⟨⟨p, l, e, R⟩, ⟨s, m, args, below, meth, c⟩, ⟨D, dA, A, nL, Q⟩, ad0, N0⟩ := X
  obtain ⟨hx, hb, hml, hts, hown, hK, hlk, hA, hZ, hR, hfl⟩ := C
  intro K nx hJ hn ls st w k n h ad H locs la hag hN hP hD hS hl
  unfold oILoad at h
  split at h
  · rename_i x hg
    exact lv_iload_n hx hb hd hi (zL_get hl (zg_some hg)) (hn _ _ _ _ _ h ad H locs la hag hN hP hD hS hl)
  · exact h.elim
theorem zo_iload {X : zM} {cc : ByteArray} {ws : List Cond} {own : String} {d MC MS : Nat} {pc : Nat} (C : zB X cc ws own d MC MS) {i : Nat} (hd : decode cc pc = .ok (.iload i, 2)) : zOk X pc (oILoad i) (pc + 2) := by
  obtain ⟨⟨p, l, e, R⟩, ⟨s, m, args, below, meth, c⟩, ⟨D, dA, A, nL, Q⟩, ad0, N0⟩ := X
  obtain ⟨hx, hb, hml, hts, hown, hK, hlk, hA, hZ, hR, hfl⟩ := C
  intro K nx hJ hn ls st w k n h ad H locs la hag hN hP hD hS hl
  unfold oILoad at h
  split at h
  · rename_i x hg
    exact lv_iload hx hb hd (zL_get hl (zg_some hg)) (hn _ _ _ _ _ h ad H locs la hag hN hP hD hS hl)
  · exact h.elim
def oALoad (i : Nat) (_ : zK) (nx : zNx) (ls : zPL) (st : List Value) (w : zW) (k n : Nat) : Prop := match zg ls i with
  | some (some (.ref x)) => nx ls (.ref x :: st) w k n
  | _ => False
theorem zo_aload_n {X : zM} {cc : ByteArray} {ws : List Cond} {own : String} {d MC MS : Nat} {pc : Nat} (C : zB X cc ws own d MC MS) {q : Fin 4} {i : Nat} (hd : decode cc pc = .ok (.aload_n q, 1)) (hi : (q : Nat) = i) : zOk X pc (oALoad i) (pc + 1) := by
  obtain ⟨⟨p, l, e, R⟩, ⟨s, m, args, below, meth, c⟩, ⟨D, dA, A, nL, Q⟩, ad0, N0⟩ := X
  obtain ⟨hx, hb, hml, hts, hown, hK, hlk, hA, hZ, hR, hfl⟩ := C
  intro K nx hJ hn ls st w k n h ad H locs la hag hN hP hD hS hl
  unfold oALoad at h
  split at h
  · rename_i x hg
    exact lv_aload_n hx hb hd hi (zL_get hl (zg_some hg)) (hn _ _ _ _ _ h ad H locs la hag hN hP hD hS hl)
  · exact h.elim
theorem zo_aload {X : zM} {cc : ByteArray} {ws : List Cond} {own : String} {d MC MS : Nat} {pc : Nat} (C : zB X cc ws own d MC MS) {i : Nat} (hd : decode cc pc = .ok (.aload i, 2)) : zOk X pc (oALoad i) (pc + 2) := by
  obtain ⟨⟨p, l, e, R⟩, ⟨s, m, args, below, meth, c⟩, ⟨D, dA, A, nL, Q⟩, ad0, N0⟩ := X
  obtain ⟨hx, hb, hml, hts, hown, hK, hlk, hA, hZ, hR, hfl⟩ := C
  intro K nx hJ hn ls st w k n h ad H locs la hag hN hP hD hS hl
  unfold oALoad at h
  split at h
  · rename_i x hg
    exact lv_aload hx hb hd (zL_get hl (zg_some hg)) (hn _ _ _ _ _ h ad H locs la hag hN hP hD hS hl)
  · exact h.elim
def oLLoad (i : Nat) (_ : zK) (nx : zNx) (ls : zPL) (st : List Value) (w : zW) (k n : Nat) : Prop := match zg ls i with
  | some (some (.long x)) => nx ls (.long x :: st) w k n
  | _ => False
theorem zo_lload_n {X : zM} {cc : ByteArray} {ws : List Cond} {own : String} {d MC MS : Nat} {pc : Nat} (C : zB X cc ws own d MC MS) {q : Fin 4} {i : Nat} (hd : decode cc pc = .ok (.lload_n q, 1)) (hi : (q : Nat) = i) : zOk X pc (oLLoad i) (pc + 1) := by
  obtain ⟨⟨p, l, e, R⟩, ⟨s, m, args, below, meth, c⟩, ⟨D, dA, A, nL, Q⟩, ad0, N0⟩ := X
  obtain ⟨hx, hb, hml, hts, hown, hK, hlk, hA, hZ, hR, hfl⟩ := C
  intro K nx hJ hn ls st w k n h ad H locs la hag hN hP hD hS hl
  unfold oLLoad at h
  split at h
  · rename_i x hg
    exact lv_lload_n hx hb hd hi (zL_get hl (zg_some hg)) (hn _ _ _ _ _ h ad H locs la hag hN hP hD hS hl)
  · exact h.elim
theorem zo_lload {X : zM} {cc : ByteArray} {ws : List Cond} {own : String} {d MC MS : Nat} {pc : Nat} (C : zB X cc ws own d MC MS) {i : Nat} (hd : decode cc pc = .ok (.lload i, 2)) : zOk X pc (oLLoad i) (pc + 2) := by
  obtain ⟨⟨p, l, e, R⟩, ⟨s, m, args, below, meth, c⟩, ⟨D, dA, A, nL, Q⟩, ad0, N0⟩ := X
  obtain ⟨hx, hb, hml, hts, hown, hK, hlk, hA, hZ, hR, hfl⟩ := C
  intro K nx hJ hn ls st w k n h ad H locs la hag hN hP hD hS hl
  unfold oLLoad at h
  split at h
  · rename_i x hg
    exact lv_lload hx hb hd (zL_get hl (zg_some hg)) (hn _ _ _ _ _ h ad H locs la hag hN hP hD hS hl)
  · exact h.elim
def oDLoad (i : Nat) (_ : zK) (nx : zNx) (ls : zPL) (st : List Value) (w : zW) (k n : Nat) : Prop := match zg ls i with
  | some (some (.double x)) => nx ls (.double x :: st) w k n
  | _ => False
theorem zo_dload_n {X : zM} {cc : ByteArray} {ws : List Cond} {own : String} {d MC MS : Nat} {pc : Nat} (C : zB X cc ws own d MC MS) {q : Fin 4} {i : Nat} (hd : decode cc pc = .ok (.dload_n q, 1)) (hi : (q : Nat) = i) : zOk X pc (oDLoad i) (pc + 1) := by
  obtain ⟨⟨p, l, e, R⟩, ⟨s, m, args, below, meth, c⟩, ⟨D, dA, A, nL, Q⟩, ad0, N0⟩ := X
  obtain ⟨hx, hb, hml, hts, hown, hK, hlk, hA, hZ, hR, hfl⟩ := C
  intro K nx hJ hn ls st w k n h ad H locs la hag hN hP hD hS hl
  unfold oDLoad at h
  split at h
  · rename_i x hg
    exact lv_dload_n hx hb hd hi (zL_get hl (zg_some hg)) (hn _ _ _ _ _ h ad H locs la hag hN hP hD hS hl)
  · exact h.elim
theorem zo_dload {X : zM} {cc : ByteArray} {ws : List Cond} {own : String} {d MC MS : Nat} {pc : Nat} (C : zB X cc ws own d MC MS) {i : Nat} (hd : decode cc pc = .ok (.dload i, 2)) : zOk X pc (oDLoad i) (pc + 2) := by
  obtain ⟨⟨p, l, e, R⟩, ⟨s, m, args, below, meth, c⟩, ⟨D, dA, A, nL, Q⟩, ad0, N0⟩ := X
  obtain ⟨hx, hb, hml, hts, hown, hK, hlk, hA, hZ, hR, hfl⟩ := C
  intro K nx hJ hn ls st w k n h ad H locs la hag hN hP hD hS hl
  unfold oDLoad at h
  split at h
  · rename_i x hg
    exact lv_dload hx hb hd (zL_get hl (zg_some hg)) (hn _ _ _ _ _ h ad H locs la hag hN hP hD hS hl)
  · exact h.elim
def oIStore (i : Nat) (_ : zK) (nx : zNx) (ls : zPL) (st : List Value) (w : zW) (k n : Nat) : Prop := match st with
  | .int x :: st => (i < ls.length ∧ zok1 ls i) ∧ nx (ls.set i (some (.int x))) st w k n
  | _ => False
theorem zo_istore_n {X : zM} {cc : ByteArray} {ws : List Cond} {own : String} {d MC MS : Nat} {pc : Nat} (C : zB X cc ws own d MC MS) {q : Fin 4} {i : Nat} (hd : decode cc pc = .ok (.istore_n q, 1)) (hi : (q : Nat) = i) : zOk X pc (oIStore i) (pc + 1) := by
  obtain ⟨⟨p, l, e, R⟩, ⟨s, m, args, below, meth, c⟩, ⟨D, dA, A, nL, Q⟩, ad0, N0⟩ := X
  obtain ⟨hx, hb, hml, hts, hown, hK, hlk, hA, hZ, hR, hfl⟩ := C
  intro K nx hJ hn ls st w k n h ad H locs la hag hN hP hD hS hl
  unfold oIStore at h
  split at h
  · rename_i x st
    obtain ⟨⟨h1, h2⟩, h⟩ := h
    exact lv_istore_n hx hb hd hi hl.2 (by rw [← hl.1]; exact h1) rfl (fun la' hl' => hn _ _ _ _ _ h ad H locs la' hag hN hP hD hS (zL_set1 hl h2 h1 hl'))
  · exact h.elim
theorem zo_istore {X : zM} {cc : ByteArray} {ws : List Cond} {own : String} {d MC MS : Nat} {pc : Nat} (C : zB X cc ws own d MC MS) {i : Nat} (hd : decode cc pc = .ok (.istore i, 2)) : zOk X pc (oIStore i) (pc + 2) := by
  obtain ⟨⟨p, l, e, R⟩, ⟨s, m, args, below, meth, c⟩, ⟨D, dA, A, nL, Q⟩, ad0, N0⟩ := X
  obtain ⟨hx, hb, hml, hts, hown, hK, hlk, hA, hZ, hR, hfl⟩ := C
  intro K nx hJ hn ls st w k n h ad H locs la hag hN hP hD hS hl
  unfold oIStore at h
  split at h
  · rename_i x st
    obtain ⟨⟨h1, h2⟩, h⟩ := h
    exact lv_istore hx hb hd hl.2 (by rw [← hl.1]; exact h1) rfl (fun la' hl' => hn _ _ _ _ _ h ad H locs la' hag hN hP hD hS (zL_set1 hl h2 h1 hl'))
  · exact h.elim
def oAStore (i : Nat) (_ : zK) (nx : zNx) (ls : zPL) (st : List Value) (w : zW) (k n : Nat) : Prop := match st with
  | .ref x :: st => (i < ls.length ∧ zok1 ls i) ∧ nx (ls.set i (some (.ref x))) st w k n
  | _ => False
theorem zo_astore_n {X : zM} {cc : ByteArray} {ws : List Cond} {own : String} {d MC MS : Nat} {pc : Nat} (C : zB X cc ws own d MC MS) {q : Fin 4} {i : Nat} (hd : decode cc pc = .ok (.astore_n q, 1)) (hi : (q : Nat) = i) : zOk X pc (oAStore i) (pc + 1) := by
  obtain ⟨⟨p, l, e, R⟩, ⟨s, m, args, below, meth, c⟩, ⟨D, dA, A, nL, Q⟩, ad0, N0⟩ := X
  obtain ⟨hx, hb, hml, hts, hown, hK, hlk, hA, hZ, hR, hfl⟩ := C
  intro K nx hJ hn ls st w k n h ad H locs la hag hN hP hD hS hl
  unfold oAStore at h
  split at h
  · rename_i x st
    obtain ⟨⟨h1, h2⟩, h⟩ := h
    exact lv_astore_n hx hb hd hi hl.2 (by rw [← hl.1]; exact h1) rfl (fun la' hl' => hn _ _ _ _ _ h ad H locs la' hag hN hP hD hS (zL_set1 hl h2 h1 hl'))
  · exact h.elim
theorem zo_astore {X : zM} {cc : ByteArray} {ws : List Cond} {own : String} {d MC MS : Nat} {pc : Nat} (C : zB X cc ws own d MC MS) {i : Nat} (hd : decode cc pc = .ok (.astore i, 2)) : zOk X pc (oAStore i) (pc + 2) := by
  obtain ⟨⟨p, l, e, R⟩, ⟨s, m, args, below, meth, c⟩, ⟨D, dA, A, nL, Q⟩, ad0, N0⟩ := X
  obtain ⟨hx, hb, hml, hts, hown, hK, hlk, hA, hZ, hR, hfl⟩ := C
  intro K nx hJ hn ls st w k n h ad H locs la hag hN hP hD hS hl
  unfold oAStore at h
  split at h
  · rename_i x st
    obtain ⟨⟨h1, h2⟩, h⟩ := h
    exact lv_astore hx hb hd hl.2 (by rw [← hl.1]; exact h1) rfl (fun la' hl' => hn _ _ _ _ _ h ad H locs la' hag hN hP hD hS (zL_set1 hl h2 h1 hl'))
  · exact h.elim
def oLStore (i : Nat) (_ : zK) (nx : zNx) (ls : zPL) (st : List Value) (w : zW) (k n : Nat) : Prop := match st with
  | .long x :: st => (i + 1 < ls.length ∧ zok1 ls i) ∧ nx ((ls.set i (some (.long x))).set (i + 1) none) st w k n
  | _ => False
theorem zo_lstore_n {X : zM} {cc : ByteArray} {ws : List Cond} {own : String} {d MC MS : Nat} {pc : Nat} (C : zB X cc ws own d MC MS) {q : Fin 4} {i : Nat} (hd : decode cc pc = .ok (.lstore_n q, 1)) (hi : (q : Nat) = i) : zOk X pc (oLStore i) (pc + 1) := by
  obtain ⟨⟨p, l, e, R⟩, ⟨s, m, args, below, meth, c⟩, ⟨D, dA, A, nL, Q⟩, ad0, N0⟩ := X
  obtain ⟨hx, hb, hml, hts, hown, hK, hlk, hA, hZ, hR, hfl⟩ := C
  intro K nx hJ hn ls st w k n h ad H locs la hag hN hP hD hS hl
  unfold oLStore at h
  split at h
  · rename_i x st
    obtain ⟨⟨h1, h2⟩, h⟩ := h
    exact lv_lstore_n hx hb hd hi hl.2 (by rw [← hl.1]; exact h1) rfl (fun la' hl' => hn _ _ _ _ _ h ad H locs la' hag hN hP hD hS (zL_set2 hl h2 h1 hl'))
  · exact h.elim
theorem zo_lstore {X : zM} {cc : ByteArray} {ws : List Cond} {own : String} {d MC MS : Nat} {pc : Nat} (C : zB X cc ws own d MC MS) {i : Nat} (hd : decode cc pc = .ok (.lstore i, 2)) : zOk X pc (oLStore i) (pc + 2) := by
  obtain ⟨⟨p, l, e, R⟩, ⟨s, m, args, below, meth, c⟩, ⟨D, dA, A, nL, Q⟩, ad0, N0⟩ := X
  obtain ⟨hx, hb, hml, hts, hown, hK, hlk, hA, hZ, hR, hfl⟩ := C
  intro K nx hJ hn ls st w k n h ad H locs la hag hN hP hD hS hl
  unfold oLStore at h
  split at h
  · rename_i x st
    obtain ⟨⟨h1, h2⟩, h⟩ := h
    exact lv_lstore hx hb hd hl.2 (by rw [← hl.1]; exact h1) rfl (fun la' hl' => hn _ _ _ _ _ h ad H locs la' hag hN hP hD hS (zL_set2 hl h2 h1 hl'))
  · exact h.elim
def oDStore (i : Nat) (_ : zK) (nx : zNx) (ls : zPL) (st : List Value) (w : zW) (k n : Nat) : Prop := match st with
  | .double x :: st => (i + 1 < ls.length ∧ zok1 ls i) ∧ nx ((ls.set i (some (.double x))).set (i + 1) none) st w k n
  | _ => False
theorem zo_dstore_n {X : zM} {cc : ByteArray} {ws : List Cond} {own : String} {d MC MS : Nat} {pc : Nat} (C : zB X cc ws own d MC MS) {q : Fin 4} {i : Nat} (hd : decode cc pc = .ok (.dstore_n q, 1)) (hi : (q : Nat) = i) : zOk X pc (oDStore i) (pc + 1) := by
  obtain ⟨⟨p, l, e, R⟩, ⟨s, m, args, below, meth, c⟩, ⟨D, dA, A, nL, Q⟩, ad0, N0⟩ := X
  obtain ⟨hx, hb, hml, hts, hown, hK, hlk, hA, hZ, hR, hfl⟩ := C
  intro K nx hJ hn ls st w k n h ad H locs la hag hN hP hD hS hl
  unfold oDStore at h
  split at h
  · rename_i x st
    obtain ⟨⟨h1, h2⟩, h⟩ := h
    exact lv_dstore_n hx hb hd hi hl.2 (by rw [← hl.1]; exact h1) rfl (fun la' hl' => hn _ _ _ _ _ h ad H locs la' hag hN hP hD hS (zL_set2 hl h2 h1 hl'))
  · exact h.elim
theorem zo_dstore {X : zM} {cc : ByteArray} {ws : List Cond} {own : String} {d MC MS : Nat} {pc : Nat} (C : zB X cc ws own d MC MS) {i : Nat} (hd : decode cc pc = .ok (.dstore i, 2)) : zOk X pc (oDStore i) (pc + 2) := by
  obtain ⟨⟨p, l, e, R⟩, ⟨s, m, args, below, meth, c⟩, ⟨D, dA, A, nL, Q⟩, ad0, N0⟩ := X
  obtain ⟨hx, hb, hml, hts, hown, hK, hlk, hA, hZ, hR, hfl⟩ := C
  intro K nx hJ hn ls st w k n h ad H locs la hag hN hP hD hS hl
  unfold oDStore at h
  split at h
  · rename_i x st
    obtain ⟨⟨h1, h2⟩, h⟩ := h
    exact lv_dstore hx hb hd hl.2 (by rw [← hl.1]; exact h1) rfl (fun la' hl' => hn _ _ _ _ _ h ad H locs la' hag hN hP hD hS (zL_set2 hl h2 h1 hl'))
  · exact h.elim
def oIinc (i : Nat) (z : Int32) (_ : zK) (nx : zNx) (ls : zPL) (st : List Value) (w : zW) (k n : Nat) : Prop := match zg ls i with
  | some (some (.int x)) => zok1 ls i ∧ nx (ls.set i (some (.int (x + z)))) st w k n
  | _ => False
theorem zo_iinc {X : zM} {cc : ByteArray} {ws : List Cond} {own : String} {d MC MS : Nat} {pc : Nat} (C : zB X cc ws own d MC MS) {i : Nat} {t : Int} {z : Int32} (hd : decode cc pc = .ok (.iinc i t, 3)) (hz : Int32.ofInt t = z) : zOk X pc (oIinc i z) (pc + 3) := by
  obtain ⟨⟨p, l, e, R⟩, ⟨s, m, args, below, meth, c⟩, ⟨D, dA, A, nL, Q⟩, ad0, N0⟩ := X
  obtain ⟨hx, hb, hml, hts, hown, hK, hlk, hA, hZ, hR, hfl⟩ := C
  intro K nx hJ hn ls st w k n h ad H locs la hag hN hP hD hS hl
  unfold oIinc at h
  split at h
  · rename_i x hg
    obtain ⟨h2, h⟩ := h
    have hi := zg_some hg
    obtain ⟨q, hq⟩ := List.getElem?_of_mem ((zAs_mem ad _ ls 0).mpr ⟨i, _, hi, rfl⟩)
    rw [Nat.zero_add] at hq
    exact lv_iinc (v := x + z) hx hb hd hl.2 hq (by rw [hz]) (by rw [← hl.1]; exact zls_lt hi) rfl (fun la' hl' => hn _ _ _ _ _ h ad H locs la' hag hN hP hD hS (zL_set1 hl h2 (zls_lt hi) hl'))
  · exact h.elim
def o_iadd  (_ : zK) (nx : zNx) (ls : zPL) (st : List Value) (w : zW) (k n : Nat) : Prop := match st with
  | .int y :: .int x :: st => nx ls (.int (x + y) :: st) w k n
  | _ => False
theorem zo_iadd {X : zM} {cc : ByteArray} {ws : List Cond} {own : String} {d MC MS : Nat} {pc : Nat} (C : zB X cc ws own d MC MS) (hd : decode cc pc = .ok (.iadd, 1)) : zOk X pc o_iadd (pc + 1) := by
  obtain ⟨⟨p, l, e, R⟩, ⟨s, m, args, below, meth, c⟩, ⟨D, dA, A, nL, Q⟩, ad0, N0⟩ := X
  obtain ⟨hx, hb, hml, hts, hown, hK, hlk, hA, hZ, hR, hfl⟩ := C
  intro K nx hJ hn ls st w k n h ad H locs la hag hN hP hD hS hl
  unfold o_iadd at h
  split at h
  · exact lv_iadd hx hb hd (hn _ _ _ _ _ h ad H locs la hag hN hP hD hS hl)
  · exact h.elim
def o_isub  (_ : zK) (nx : zNx) (ls : zPL) (st : List Value) (w : zW) (k n : Nat) : Prop := match st with
  | .int y :: .int x :: st => nx ls (.int (x - y) :: st) w k n
  | _ => False
theorem zo_isub {X : zM} {cc : ByteArray} {ws : List Cond} {own : String} {d MC MS : Nat} {pc : Nat} (C : zB X cc ws own d MC MS) (hd : decode cc pc = .ok (.isub, 1)) : zOk X pc o_isub (pc + 1) := by
  obtain ⟨⟨p, l, e, R⟩, ⟨s, m, args, below, meth, c⟩, ⟨D, dA, A, nL, Q⟩, ad0, N0⟩ := X
  obtain ⟨hx, hb, hml, hts, hown, hK, hlk, hA, hZ, hR, hfl⟩ := C
  intro K nx hJ hn ls st w k n h ad H locs la hag hN hP hD hS hl
  unfold o_isub at h
  split at h
  · exact lv_isub hx hb hd (hn _ _ _ _ _ h ad H locs la hag hN hP hD hS hl)
  · exact h.elim
def o_imul  (_ : zK) (nx : zNx) (ls : zPL) (st : List Value) (w : zW) (k n : Nat) : Prop := match st with
  | .int y :: .int x :: st => nx ls (.int (x * y) :: st) w k n
  | _ => False
theorem zo_imul {X : zM} {cc : ByteArray} {ws : List Cond} {own : String} {d MC MS : Nat} {pc : Nat} (C : zB X cc ws own d MC MS) (hd : decode cc pc = .ok (.imul, 1)) : zOk X pc o_imul (pc + 1) := by
  obtain ⟨⟨p, l, e, R⟩, ⟨s, m, args, below, meth, c⟩, ⟨D, dA, A, nL, Q⟩, ad0, N0⟩ := X
  obtain ⟨hx, hb, hml, hts, hown, hK, hlk, hA, hZ, hR, hfl⟩ := C
  intro K nx hJ hn ls st w k n h ad H locs la hag hN hP hD hS hl
  unfold o_imul at h
  split at h
  · exact lv_imul hx hb hd (hn _ _ _ _ _ h ad H locs la hag hN hP hD hS hl)
  · exact h.elim
def o_iand  (_ : zK) (nx : zNx) (ls : zPL) (st : List Value) (w : zW) (k n : Nat) : Prop := match st with
  | .int y :: .int x :: st => nx ls (.int (x &&& y) :: st) w k n
  | _ => False
theorem zo_iand {X : zM} {cc : ByteArray} {ws : List Cond} {own : String} {d MC MS : Nat} {pc : Nat} (C : zB X cc ws own d MC MS) (hd : decode cc pc = .ok (.iand, 1)) : zOk X pc o_iand (pc + 1) := by
  obtain ⟨⟨p, l, e, R⟩, ⟨s, m, args, below, meth, c⟩, ⟨D, dA, A, nL, Q⟩, ad0, N0⟩ := X
  obtain ⟨hx, hb, hml, hts, hown, hK, hlk, hA, hZ, hR, hfl⟩ := C
  intro K nx hJ hn ls st w k n h ad H locs la hag hN hP hD hS hl
  unfold o_iand at h
  split at h
  · exact lv_iand hx hb hd (hn _ _ _ _ _ h ad H locs la hag hN hP hD hS hl)
  · exact h.elim
def o_ior  (_ : zK) (nx : zNx) (ls : zPL) (st : List Value) (w : zW) (k n : Nat) : Prop := match st with
  | .int y :: .int x :: st => nx ls (.int (x ||| y) :: st) w k n
  | _ => False
theorem zo_ior {X : zM} {cc : ByteArray} {ws : List Cond} {own : String} {d MC MS : Nat} {pc : Nat} (C : zB X cc ws own d MC MS) (hd : decode cc pc = .ok (.ior, 1)) : zOk X pc o_ior (pc + 1) := by
  obtain ⟨⟨p, l, e, R⟩, ⟨s, m, args, below, meth, c⟩, ⟨D, dA, A, nL, Q⟩, ad0, N0⟩ := X
  obtain ⟨hx, hb, hml, hts, hown, hK, hlk, hA, hZ, hR, hfl⟩ := C
  intro K nx hJ hn ls st w k n h ad H locs la hag hN hP hD hS hl
  unfold o_ior at h
  split at h
  · exact lv_ior hx hb hd (hn _ _ _ _ _ h ad H locs la hag hN hP hD hS hl)
  · exact h.elim
def o_ixor  (_ : zK) (nx : zNx) (ls : zPL) (st : List Value) (w : zW) (k n : Nat) : Prop := match st with
  | .int y :: .int x :: st => nx ls (.int (x ^^^ y) :: st) w k n
  | _ => False
theorem zo_ixor {X : zM} {cc : ByteArray} {ws : List Cond} {own : String} {d MC MS : Nat} {pc : Nat} (C : zB X cc ws own d MC MS) (hd : decode cc pc = .ok (.ixor, 1)) : zOk X pc o_ixor (pc + 1) := by
  obtain ⟨⟨p, l, e, R⟩, ⟨s, m, args, below, meth, c⟩, ⟨D, dA, A, nL, Q⟩, ad0, N0⟩ := X
  obtain ⟨hx, hb, hml, hts, hown, hK, hlk, hA, hZ, hR, hfl⟩ := C
  intro K nx hJ hn ls st w k n h ad H locs la hag hN hP hD hS hl
  unfold o_ixor at h
  split at h
  · exact lv_ixor hx hb hd (hn _ _ _ _ _ h ad H locs la hag hN hP hD hS hl)
  · exact h.elim
def o_ishl  (_ : zK) (nx : zNx) (ls : zPL) (st : List Value) (w : zW) (k n : Nat) : Prop := match st with
  | .int y :: .int x :: st => nx ls (.int (x <<< (y &&& 31)) :: st) w k n
  | _ => False
theorem zo_ishl {X : zM} {cc : ByteArray} {ws : List Cond} {own : String} {d MC MS : Nat} {pc : Nat} (C : zB X cc ws own d MC MS) (hd : decode cc pc = .ok (.ishl, 1)) : zOk X pc o_ishl (pc + 1) := by
  obtain ⟨⟨p, l, e, R⟩, ⟨s, m, args, below, meth, c⟩, ⟨D, dA, A, nL, Q⟩, ad0, N0⟩ := X
  obtain ⟨hx, hb, hml, hts, hown, hK, hlk, hA, hZ, hR, hfl⟩ := C
  intro K nx hJ hn ls st w k n h ad H locs la hag hN hP hD hS hl
  unfold o_ishl at h
  split at h
  · exact lv_ishl hx hb hd (hn _ _ _ _ _ h ad H locs la hag hN hP hD hS hl)
  · exact h.elim
def o_ishr  (_ : zK) (nx : zNx) (ls : zPL) (st : List Value) (w : zW) (k n : Nat) : Prop := match st with
  | .int y :: .int x :: st => nx ls (.int (x >>> (y &&& 31)) :: st) w k n
  | _ => False
theorem zo_ishr {X : zM} {cc : ByteArray} {ws : List Cond} {own : String} {d MC MS : Nat} {pc : Nat} (C : zB X cc ws own d MC MS) (hd : decode cc pc = .ok (.ishr, 1)) : zOk X pc o_ishr (pc + 1) := by
  obtain ⟨⟨p, l, e, R⟩, ⟨s, m, args, below, meth, c⟩, ⟨D, dA, A, nL, Q⟩, ad0, N0⟩ := X
  obtain ⟨hx, hb, hml, hts, hown, hK, hlk, hA, hZ, hR, hfl⟩ := C
  intro K nx hJ hn ls st w k n h ad H locs la hag hN hP hD hS hl
  unfold o_ishr at h
  split at h
  · exact lv_ishr hx hb hd (hn _ _ _ _ _ h ad H locs la hag hN hP hD hS hl)
  · exact h.elim
def o_iushr  (_ : zK) (nx : zNx) (ls : zPL) (st : List Value) (w : zW) (k n : Nat) : Prop := match st with
  | .int y :: .int x :: st => nx ls (.int ((x.toUInt32 >>> (y.toUInt32 &&& Int32.toUInt32 31)).toInt32) :: st) w k n
  | _ => False
theorem zo_iushr {X : zM} {cc : ByteArray} {ws : List Cond} {own : String} {d MC MS : Nat} {pc : Nat} (C : zB X cc ws own d MC MS) (hd : decode cc pc = .ok (.iushr, 1)) : zOk X pc o_iushr (pc + 1) := by
  obtain ⟨⟨p, l, e, R⟩, ⟨s, m, args, below, meth, c⟩, ⟨D, dA, A, nL, Q⟩, ad0, N0⟩ := X
  obtain ⟨hx, hb, hml, hts, hown, hK, hlk, hA, hZ, hR, hfl⟩ := C
  intro K nx hJ hn ls st w k n h ad H locs la hag hN hP hD hS hl
  unfold o_iushr at h
  split at h
  · exact lv_iushr hx hb hd rfl (hn _ _ _ _ _ h ad H locs la hag hN hP hD hS hl)
  · exact h.elim
def o_idiv  (_ : zK) (nx : zNx) (ls : zPL) (st : List Value) (w : zW) (k n : Nat) : Prop := match st with
  | .int y :: .int x :: st => ¬ y = 0 ∧ nx ls (.int (x / y) :: st) w k n
  | _ => False
theorem zo_idiv {X : zM} {cc : ByteArray} {ws : List Cond} {own : String} {d MC MS : Nat} {pc : Nat} (C : zB X cc ws own d MC MS) (hd : decode cc pc = .ok (.idiv, 1)) : zOk X pc o_idiv (pc + 1) := by
  obtain ⟨⟨p, l, e, R⟩, ⟨s, m, args, below, meth, c⟩, ⟨D, dA, A, nL, Q⟩, ad0, N0⟩ := X
  obtain ⟨hx, hb, hml, hts, hown, hK, hlk, hA, hZ, hR, hfl⟩ := C
  intro K nx hJ hn ls st w k n h ad H locs la hag hN hP hD hS hl
  unfold o_idiv at h
  split at h
  · obtain ⟨h1, h⟩ := h
    exact lv_idiv hx hb hd h1 (hn _ _ _ _ _ h ad H locs la hag hN hP hD hS hl)
  · exact h.elim
def o_irem  (_ : zK) (nx : zNx) (ls : zPL) (st : List Value) (w : zW) (k n : Nat) : Prop := match st with
  | .int y :: .int x :: st => ¬ y = 0 ∧ nx ls (.int (x - x / y * y) :: st) w k n
  | _ => False
theorem zo_irem {X : zM} {cc : ByteArray} {ws : List Cond} {own : String} {d MC MS : Nat} {pc : Nat} (C : zB X cc ws own d MC MS) (hd : decode cc pc = .ok (.irem, 1)) : zOk X pc o_irem (pc + 1) := by
  obtain ⟨⟨p, l, e, R⟩, ⟨s, m, args, below, meth, c⟩, ⟨D, dA, A, nL, Q⟩, ad0, N0⟩ := X
  obtain ⟨hx, hb, hml, hts, hown, hK, hlk, hA, hZ, hR, hfl⟩ := C
  intro K nx hJ hn ls st w k n h ad H locs la hag hN hP hD hS hl
  unfold o_irem at h
  split at h
  · obtain ⟨h1, h⟩ := h
    exact lv_irem hx hb hd h1 (hn _ _ _ _ _ h ad H locs la hag hN hP hD hS hl)
  · exact h.elim
def o_ladd  (_ : zK) (nx : zNx) (ls : zPL) (st : List Value) (w : zW) (k n : Nat) : Prop := match st with
  | .long y :: .long x :: st => nx ls (.long (x + y) :: st) w k n
  | _ => False
theorem zo_ladd {X : zM} {cc : ByteArray} {ws : List Cond} {own : String} {d MC MS : Nat} {pc : Nat} (C : zB X cc ws own d MC MS) (hd : decode cc pc = .ok (.ladd, 1)) : zOk X pc o_ladd (pc + 1) := by
  obtain ⟨⟨p, l, e, R⟩, ⟨s, m, args, below, meth, c⟩, ⟨D, dA, A, nL, Q⟩, ad0, N0⟩ := X
  obtain ⟨hx, hb, hml, hts, hown, hK, hlk, hA, hZ, hR, hfl⟩ := C
  intro K nx hJ hn ls st w k n h ad H locs la hag hN hP hD hS hl
  unfold o_ladd at h
  split at h
  · exact lv_ladd hx hb hd (hn _ _ _ _ _ h ad H locs la hag hN hP hD hS hl)
  · exact h.elim
def o_lsub  (_ : zK) (nx : zNx) (ls : zPL) (st : List Value) (w : zW) (k n : Nat) : Prop := match st with
  | .long y :: .long x :: st => nx ls (.long (x - y) :: st) w k n
  | _ => False
theorem zo_lsub {X : zM} {cc : ByteArray} {ws : List Cond} {own : String} {d MC MS : Nat} {pc : Nat} (C : zB X cc ws own d MC MS) (hd : decode cc pc = .ok (.lsub, 1)) : zOk X pc o_lsub (pc + 1) := by
  obtain ⟨⟨p, l, e, R⟩, ⟨s, m, args, below, meth, c⟩, ⟨D, dA, A, nL, Q⟩, ad0, N0⟩ := X
  obtain ⟨hx, hb, hml, hts, hown, hK, hlk, hA, hZ, hR, hfl⟩ := C
  intro K nx hJ hn ls st w k n h ad H locs la hag hN hP hD hS hl
  unfold o_lsub at h
  split at h
  · exact lv_lsub hx hb hd (hn _ _ _ _ _ h ad H locs la hag hN hP hD hS hl)
  · exact h.elim
def o_lmul  (_ : zK) (nx : zNx) (ls : zPL) (st : List Value) (w : zW) (k n : Nat) : Prop := match st with
  | .long y :: .long x :: st => nx ls (.long (x * y) :: st) w k n
  | _ => False
theorem zo_lmul {X : zM} {cc : ByteArray} {ws : List Cond} {own : String} {d MC MS : Nat} {pc : Nat} (C : zB X cc ws own d MC MS) (hd : decode cc pc = .ok (.lmul, 1)) : zOk X pc o_lmul (pc + 1) := by
  obtain ⟨⟨p, l, e, R⟩, ⟨s, m, args, below, meth, c⟩, ⟨D, dA, A, nL, Q⟩, ad0, N0⟩ := X
  obtain ⟨hx, hb, hml, hts, hown, hK, hlk, hA, hZ, hR, hfl⟩ := C
  intro K nx hJ hn ls st w k n h ad H locs la hag hN hP hD hS hl
  unfold o_lmul at h
  split at h
  · exact lv_lmul hx hb hd (hn _ _ _ _ _ h ad H locs la hag hN hP hD hS hl)
  · exact h.elim
def o_ldiv  (_ : zK) (nx : zNx) (ls : zPL) (st : List Value) (w : zW) (k n : Nat) : Prop := match st with
  | .long y :: .long x :: st => ¬ y = 0 ∧ nx ls (.long (x / y) :: st) w k n
  | _ => False
theorem zo_ldiv {X : zM} {cc : ByteArray} {ws : List Cond} {own : String} {d MC MS : Nat} {pc : Nat} (C : zB X cc ws own d MC MS) (hd : decode cc pc = .ok (.ldiv, 1)) : zOk X pc o_ldiv (pc + 1) := by
  obtain ⟨⟨p, l, e, R⟩, ⟨s, m, args, below, meth, c⟩, ⟨D, dA, A, nL, Q⟩, ad0, N0⟩ := X
  obtain ⟨hx, hb, hml, hts, hown, hK, hlk, hA, hZ, hR, hfl⟩ := C
  intro K nx hJ hn ls st w k n h ad H locs la hag hN hP hD hS hl
  unfold o_ldiv at h
  split at h
  · obtain ⟨h1, h⟩ := h
    exact lv_ldiv hx hb hd h1 (hn _ _ _ _ _ h ad H locs la hag hN hP hD hS hl)
  · exact h.elim
def o_lrem  (_ : zK) (nx : zNx) (ls : zPL) (st : List Value) (w : zW) (k n : Nat) : Prop := match st with
  | .long y :: .long x :: st => ¬ y = 0 ∧ nx ls (.long (x - x / y * y) :: st) w k n
  | _ => False
theorem zo_lrem {X : zM} {cc : ByteArray} {ws : List Cond} {own : String} {d MC MS : Nat} {pc : Nat} (C : zB X cc ws own d MC MS) (hd : decode cc pc = .ok (.lrem, 1)) : zOk X pc o_lrem (pc + 1) := by
  obtain ⟨⟨p, l, e, R⟩, ⟨s, m, args, below, meth, c⟩, ⟨D, dA, A, nL, Q⟩, ad0, N0⟩ := X
  obtain ⟨hx, hb, hml, hts, hown, hK, hlk, hA, hZ, hR, hfl⟩ := C
  intro K nx hJ hn ls st w k n h ad H locs la hag hN hP hD hS hl
  unfold o_lrem at h
  split at h
  · obtain ⟨h1, h⟩ := h
    exact lv_lrem hx hb hd h1 (hn _ _ _ _ _ h ad H locs la hag hN hP hD hS hl)
  · exact h.elim
def o_ddiv  (_ : zK) (nx : zNx) (ls : zPL) (st : List Value) (w : zW) (k n : Nat) : Prop := match st with
  | .double y :: .double x :: st => vf_n64 (FP.ddiv x y) ∧ nx ls (.double (FP.ddiv x y) :: st) w k n
  | _ => False
theorem zo_ddiv {X : zM} {cc : ByteArray} {ws : List Cond} {own : String} {d MC MS : Nat} {pc : Nat} (C : zB X cc ws own d MC MS) (hd : decode cc pc = .ok (.ddiv, 1)) : zOk X pc o_ddiv (pc + 1) := by
  obtain ⟨⟨p, l, e, R⟩, ⟨s, m, args, below, meth, c⟩, ⟨D, dA, A, nL, Q⟩, ad0, N0⟩ := X
  obtain ⟨hx, hb, hml, hts, hown, hK, hlk, hA, hZ, hR, hfl⟩ := C
  intro K nx hJ hn ls st w k n h ad H locs la hag hN hP hD hS hl
  unfold o_ddiv at h
  split at h
  · obtain ⟨h1, h⟩ := h
    exact lv_ddiv hx hb hd h1 (hn _ _ _ _ _ h ad H locs la hag hN hP hD hS hl)
  · exact h.elim
def o_i2l  (_ : zK) (nx : zNx) (ls : zPL) (st : List Value) (w : zW) (k n : Nat) : Prop := match st with
  | .int x :: st => nx ls (.long (x.toInt64) :: st) w k n
  | _ => False
theorem zo_i2l {X : zM} {cc : ByteArray} {ws : List Cond} {own : String} {d MC MS : Nat} {pc : Nat} (C : zB X cc ws own d MC MS) (hd : decode cc pc = .ok (.i2l, 1)) : zOk X pc o_i2l (pc + 1) := by
  obtain ⟨⟨p, l, e, R⟩, ⟨s, m, args, below, meth, c⟩, ⟨D, dA, A, nL, Q⟩, ad0, N0⟩ := X
  obtain ⟨hx, hb, hml, hts, hown, hK, hlk, hA, hZ, hR, hfl⟩ := C
  intro K nx hJ hn ls st w k n h ad H locs la hag hN hP hD hS hl
  unfold o_i2l at h
  split at h
  · exact lv_i2l hx hb hd rfl (hn _ _ _ _ _ h ad H locs la hag hN hP hD hS hl)
  · exact h.elim
def o_l2i  (_ : zK) (nx : zNx) (ls : zPL) (st : List Value) (w : zW) (k n : Nat) : Prop := match st with
  | .long x :: st => nx ls (.int (x.toInt32) :: st) w k n
  | _ => False
theorem zo_l2i {X : zM} {cc : ByteArray} {ws : List Cond} {own : String} {d MC MS : Nat} {pc : Nat} (C : zB X cc ws own d MC MS) (hd : decode cc pc = .ok (.l2i, 1)) : zOk X pc o_l2i (pc + 1) := by
  obtain ⟨⟨p, l, e, R⟩, ⟨s, m, args, below, meth, c⟩, ⟨D, dA, A, nL, Q⟩, ad0, N0⟩ := X
  obtain ⟨hx, hb, hml, hts, hown, hK, hlk, hA, hZ, hR, hfl⟩ := C
  intro K nx hJ hn ls st w k n h ad H locs la hag hN hP hD hS hl
  unfold o_l2i at h
  split at h
  · exact lv_l2i hx hb hd rfl (hn _ _ _ _ _ h ad H locs la hag hN hP hD hS hl)
  · exact h.elim
def o_i2d  (_ : zK) (nx : zNx) (ls : zPL) (st : List Value) (w : zW) (k n : Nat) : Prop := match st with
  | .int x :: st => nx ls (.double (FP.i2d x) :: st) w k n
  | _ => False
theorem zo_i2d {X : zM} {cc : ByteArray} {ws : List Cond} {own : String} {d MC MS : Nat} {pc : Nat} (C : zB X cc ws own d MC MS) (hd : decode cc pc = .ok (.i2d, 1)) : zOk X pc o_i2d (pc + 1) := by
  obtain ⟨⟨p, l, e, R⟩, ⟨s, m, args, below, meth, c⟩, ⟨D, dA, A, nL, Q⟩, ad0, N0⟩ := X
  obtain ⟨hx, hb, hml, hts, hown, hK, hlk, hA, hZ, hR, hfl⟩ := C
  intro K nx hJ hn ls st w k n h ad H locs la hag hN hP hD hS hl
  unfold o_i2d at h
  split at h
  · exact lv_i2d hx hb hd (hn _ _ _ _ _ h ad H locs la hag hN hP hD hS hl)
  · exact h.elim
def o_i2b  (_ : zK) (nx : zNx) (ls : zPL) (st : List Value) (w : zW) (k n : Nat) : Prop := match st with
  | .int x :: st => nx ls (.int (x.toInt8.toInt32) :: st) w k n
  | _ => False
theorem zo_i2b {X : zM} {cc : ByteArray} {ws : List Cond} {own : String} {d MC MS : Nat} {pc : Nat} (C : zB X cc ws own d MC MS) (hd : decode cc pc = .ok (.i2b, 1)) : zOk X pc o_i2b (pc + 1) := by
  obtain ⟨⟨p, l, e, R⟩, ⟨s, m, args, below, meth, c⟩, ⟨D, dA, A, nL, Q⟩, ad0, N0⟩ := X
  obtain ⟨hx, hb, hml, hts, hown, hK, hlk, hA, hZ, hR, hfl⟩ := C
  intro K nx hJ hn ls st w k n h ad H locs la hag hN hP hD hS hl
  unfold o_i2b at h
  split at h
  · exact lv_i2b hx hb hd rfl (hn _ _ _ _ _ h ad H locs la hag hN hP hD hS hl)
  · exact h.elim
def o_lcmp  (_ : zK) (nx : zNx) (ls : zPL) (st : List Value) (w : zW) (k n : Nat) : Prop := match st with
  | .long y :: .long x :: st => nx ls (.int (lg_cmp x y) :: st) w k n
  | _ => False
theorem zo_lcmp {X : zM} {cc : ByteArray} {ws : List Cond} {own : String} {d MC MS : Nat} {pc : Nat} (C : zB X cc ws own d MC MS) (hd : decode cc pc = .ok (.lcmp, 1)) : zOk X pc o_lcmp (pc + 1) := by
  obtain ⟨⟨p, l, e, R⟩, ⟨s, m, args, below, meth, c⟩, ⟨D, dA, A, nL, Q⟩, ad0, N0⟩ := X
  obtain ⟨hx, hb, hml, hts, hown, hK, hlk, hA, hZ, hR, hfl⟩ := C
  intro K nx hJ hn ls st w k n h ad H locs la hag hN hP hD hS hl
  unfold o_lcmp at h
  split at h
  · exact W.lcmp hx hb hd (hn _ _ _ _ _ h ad H locs la hag hN hP hD hS hl)
  · exact h.elim
def o_dcmp (o : CmpOp) (_ : zK) (nx : zNx) (ls : zPL) (st : List Value) (w : zW) (k n : Nat) : Prop := match st with
  | .double y :: .double x :: st => nx ls (.int (Op.cmpValue (FP.dcmp x y) o) :: st) w k n
  | _ => False
theorem zo_dcmp {X : zM} {cc : ByteArray} {ws : List Cond} {own : String} {d MC MS : Nat} {pc : Nat} (C : zB X cc ws own d MC MS) {o : CmpOp} (hd : decode cc pc = .ok (.dcmp o, 1)) : zOk X pc (o_dcmp o) (pc + 1) := by
  obtain ⟨⟨p, l, e, R⟩, ⟨s, m, args, below, meth, c⟩, ⟨D, dA, A, nL, Q⟩, ad0, N0⟩ := X
  obtain ⟨hx, hb, hml, hts, hown, hK, hlk, hA, hZ, hR, hfl⟩ := C
  intro K nx hJ hn ls st w k n h ad H locs la hag hN hP hD hS hl
  unfold o_dcmp at h
  split at h
  · exact lv_dcmp hx hb hd (hn _ _ _ _ _ h ad H locs la hag hN hP hD hS hl)
  · exact h.elim
def o_dup  (_ : zK) (nx : zNx) (ls : zPL) (st : List Value) (w : zW) (k n : Nat) : Prop := match st with
  | v :: st => v.category = 1 ∧ nx ls (v :: v :: st) w k n
  | _ => False
theorem zo_dup {X : zM} {cc : ByteArray} {ws : List Cond} {own : String} {d MC MS : Nat} {pc : Nat} (C : zB X cc ws own d MC MS) (hd : decode cc pc = .ok (.dup, 1)) : zOk X pc o_dup (pc + 1) := by
  obtain ⟨⟨p, l, e, R⟩, ⟨s, m, args, below, meth, c⟩, ⟨D, dA, A, nL, Q⟩, ad0, N0⟩ := X
  obtain ⟨hx, hb, hml, hts, hown, hK, hlk, hA, hZ, hR, hfl⟩ := C
  intro K nx hJ hn ls st w k n h ad H locs la hag hN hP hD hS hl
  unfold o_dup at h
  split at h
  · exact lv_dup hx hb hd (by rw [zv_cat]; exact h.1) (hn _ _ _ _ _ h.2 ad H locs la hag hN hP hD hS hl)
  · exact h.elim
def o_dup2  (_ : zK) (nx : zNx) (ls : zPL) (st : List Value) (w : zW) (k n : Nat) : Prop := match st with
  | v :: u :: st => (v.category = 1 ∧ u.category = 1) ∧ nx ls (v :: u :: v :: u :: st) w k n
  | _ => False
theorem zo_dup2 {X : zM} {cc : ByteArray} {ws : List Cond} {own : String} {d MC MS : Nat} {pc : Nat} (C : zB X cc ws own d MC MS) (hd : decode cc pc = .ok (.dup2, 1)) : zOk X pc o_dup2 (pc + 1) := by
  obtain ⟨⟨p, l, e, R⟩, ⟨s, m, args, below, meth, c⟩, ⟨D, dA, A, nL, Q⟩, ad0, N0⟩ := X
  obtain ⟨hx, hb, hml, hts, hown, hK, hlk, hA, hZ, hR, hfl⟩ := C
  intro K nx hJ hn ls st w k n h ad H locs la hag hN hP hD hS hl
  unfold o_dup2 at h
  split at h
  · exact lv_dup2_11 hx hb hd (by rw [zv_cat]; exact h.1.1) (by rw [zv_cat]; exact h.1.2) (hn _ _ _ _ _ h.2 ad H locs la hag hN hP hD hS hl)
  · exact h.elim
def o_pop  (_ : zK) (nx : zNx) (ls : zPL) (st : List Value) (w : zW) (k n : Nat) : Prop := match st with
  | v :: st => v.category = 1 ∧ nx ls st w k n
  | _ => False
theorem zo_pop {X : zM} {cc : ByteArray} {ws : List Cond} {own : String} {d MC MS : Nat} {pc : Nat} (C : zB X cc ws own d MC MS) (hd : decode cc pc = .ok (.pop, 1)) : zOk X pc o_pop (pc + 1) := by
  obtain ⟨⟨p, l, e, R⟩, ⟨s, m, args, below, meth, c⟩, ⟨D, dA, A, nL, Q⟩, ad0, N0⟩ := X
  obtain ⟨hx, hb, hml, hts, hown, hK, hlk, hA, hZ, hR, hfl⟩ := C
  intro K nx hJ hn ls st w k n h ad H locs la hag hN hP hD hS hl
  unfold o_pop at h
  split at h
  · exact lv_pop hx hb hd (by rw [zv_cat]; exact h.1) (hn _ _ _ _ _ h.2 ad H locs la hag hN hP hD hS hl)
  · exact h.elim
def o_ic_eq (tg nt : Nat) (K : zK) (_ : zNx) (ls : zPL) (st : List Value) (w : zW) (k n : Nat) : Prop := match st with
  | .int y :: .int x :: st => (x = y → K tg ls st w k n) ∧ (¬ (x = y) → K nt ls st w k n)
  | _ => False
theorem zo_ic_eq {X : zM} {cc : ByteArray} {ws : List Cond} {own : String} {d MC MS : Nat} {pc : Nat} (C : zB X cc ws own d MC MS) {off : Int} {tg nt : Nat} (hd : decode cc pc = .ok (.if_icmp .eq off, 3)) (ht : (pc : Int) + off = (tg : Int)) (hnt : pc + 3 = nt) : zOk X pc (o_ic_eq tg nt) nt := by
  obtain ⟨⟨p, l, e, R⟩, ⟨s, m, args, below, meth, c⟩, ⟨D, dA, A, nL, Q⟩, ad0, N0⟩ := X
  obtain ⟨hx, hb, hml, hts, hown, hK, hlk, hA, hZ, hR, hfl⟩ := C
  intro K nx hJ hn ls st w k n h ad H locs la hag hN hP hD hS hl
  subst hnt
  unfold o_ic_eq at h
  split at h
  · exact lv_icmp_eq hx hb hd ht (fun q => hJ _ _ _ _ _ _ (h.1 (by first | exact q | simpa using q)) ad H locs la hag hN hP hD hS hl) (fun q => hJ _ _ _ _ _ _ (h.2 (by first | exact q | simpa using q)) ad H locs la hag hN hP hD hS hl)
  · exact h.elim
def o_if_eq (tg nt : Nat) (K : zK) (_ : zNx) (ls : zPL) (st : List Value) (w : zW) (k n : Nat) : Prop := match st with
  | .int x :: st => (x = 0 → K tg ls st w k n) ∧ (¬ (x = 0) → K nt ls st w k n)
  | _ => False
theorem zo_if_eq {X : zM} {cc : ByteArray} {ws : List Cond} {own : String} {d MC MS : Nat} {pc : Nat} (C : zB X cc ws own d MC MS) {off : Int} {tg nt : Nat} (hd : decode cc pc = .ok (.ifCond .eq off, 3)) (ht : (pc : Int) + off = (tg : Int)) (hnt : pc + 3 = nt) : zOk X pc (o_if_eq tg nt) nt := by
  obtain ⟨⟨p, l, e, R⟩, ⟨s, m, args, below, meth, c⟩, ⟨D, dA, A, nL, Q⟩, ad0, N0⟩ := X
  obtain ⟨hx, hb, hml, hts, hown, hK, hlk, hA, hZ, hR, hfl⟩ := C
  intro K nx hJ hn ls st w k n h ad H locs la hag hN hP hD hS hl
  subst hnt
  unfold o_if_eq at h
  split at h
  · exact lv_if_eq hx hb hd ht (fun q => hJ _ _ _ _ _ _ (h.1 (by first | exact q | simpa using q)) ad H locs la hag hN hP hD hS hl) (fun q => hJ _ _ _ _ _ _ (h.2 (by first | exact q | simpa using q)) ad H locs la hag hN hP hD hS hl)
  · exact h.elim
def o_ic_ne (tg nt : Nat) (K : zK) (_ : zNx) (ls : zPL) (st : List Value) (w : zW) (k n : Nat) : Prop := match st with
  | .int y :: .int x :: st => (¬ x = y → K tg ls st w k n) ∧ (¬ (¬ x = y) → K nt ls st w k n)
  | _ => False
theorem zo_ic_ne {X : zM} {cc : ByteArray} {ws : List Cond} {own : String} {d MC MS : Nat} {pc : Nat} (C : zB X cc ws own d MC MS) {off : Int} {tg nt : Nat} (hd : decode cc pc = .ok (.if_icmp .ne off, 3)) (ht : (pc : Int) + off = (tg : Int)) (hnt : pc + 3 = nt) : zOk X pc (o_ic_ne tg nt) nt := by
  obtain ⟨⟨p, l, e, R⟩, ⟨s, m, args, below, meth, c⟩, ⟨D, dA, A, nL, Q⟩, ad0, N0⟩ := X
  obtain ⟨hx, hb, hml, hts, hown, hK, hlk, hA, hZ, hR, hfl⟩ := C
  intro K nx hJ hn ls st w k n h ad H locs la hag hN hP hD hS hl
  subst hnt
  unfold o_ic_ne at h
  split at h
  · exact lv_icmp_ne hx hb hd ht (fun q => hJ _ _ _ _ _ _ (h.1 (by first | exact q | simpa using q)) ad H locs la hag hN hP hD hS hl) (fun q => hJ _ _ _ _ _ _ (h.2 (by first | exact q | simpa using q)) ad H locs la hag hN hP hD hS hl)
  · exact h.elim
def o_if_ne (tg nt : Nat) (K : zK) (_ : zNx) (ls : zPL) (st : List Value) (w : zW) (k n : Nat) : Prop := match st with
  | .int x :: st => (¬ x = 0 → K tg ls st w k n) ∧ (¬ (¬ x = 0) → K nt ls st w k n)
  | _ => False
theorem zo_if_ne {X : zM} {cc : ByteArray} {ws : List Cond} {own : String} {d MC MS : Nat} {pc : Nat} (C : zB X cc ws own d MC MS) {off : Int} {tg nt : Nat} (hd : decode cc pc = .ok (.ifCond .ne off, 3)) (ht : (pc : Int) + off = (tg : Int)) (hnt : pc + 3 = nt) : zOk X pc (o_if_ne tg nt) nt := by
  obtain ⟨⟨p, l, e, R⟩, ⟨s, m, args, below, meth, c⟩, ⟨D, dA, A, nL, Q⟩, ad0, N0⟩ := X
  obtain ⟨hx, hb, hml, hts, hown, hK, hlk, hA, hZ, hR, hfl⟩ := C
  intro K nx hJ hn ls st w k n h ad H locs la hag hN hP hD hS hl
  subst hnt
  unfold o_if_ne at h
  split at h
  · exact lv_if_ne hx hb hd ht (fun q => hJ _ _ _ _ _ _ (h.1 (by first | exact q | simpa using q)) ad H locs la hag hN hP hD hS hl) (fun q => hJ _ _ _ _ _ _ (h.2 (by first | exact q | simpa using q)) ad H locs la hag hN hP hD hS hl)
  · exact h.elim
def o_ic_lt (tg nt : Nat) (K : zK) (_ : zNx) (ls : zPL) (st : List Value) (w : zW) (k n : Nat) : Prop := match st with
  | .int y :: .int x :: st => (x < y → K tg ls st w k n) ∧ (¬ (x < y) → K nt ls st w k n)
  | _ => False
theorem zo_ic_lt {X : zM} {cc : ByteArray} {ws : List Cond} {own : String} {d MC MS : Nat} {pc : Nat} (C : zB X cc ws own d MC MS) {off : Int} {tg nt : Nat} (hd : decode cc pc = .ok (.if_icmp .lt off, 3)) (ht : (pc : Int) + off = (tg : Int)) (hnt : pc + 3 = nt) : zOk X pc (o_ic_lt tg nt) nt := by
  obtain ⟨⟨p, l, e, R⟩, ⟨s, m, args, below, meth, c⟩, ⟨D, dA, A, nL, Q⟩, ad0, N0⟩ := X
  obtain ⟨hx, hb, hml, hts, hown, hK, hlk, hA, hZ, hR, hfl⟩ := C
  intro K nx hJ hn ls st w k n h ad H locs la hag hN hP hD hS hl
  subst hnt
  unfold o_ic_lt at h
  split at h
  · exact lv_icmp_lt hx hb hd ht (fun q => hJ _ _ _ _ _ _ (h.1 (by first | exact q | simpa using q)) ad H locs la hag hN hP hD hS hl) (fun q => hJ _ _ _ _ _ _ (h.2 (by first | exact q | simpa using q)) ad H locs la hag hN hP hD hS hl)
  · exact h.elim
def o_if_lt (tg nt : Nat) (K : zK) (_ : zNx) (ls : zPL) (st : List Value) (w : zW) (k n : Nat) : Prop := match st with
  | .int x :: st => (x < 0 → K tg ls st w k n) ∧ (¬ (x < 0) → K nt ls st w k n)
  | _ => False
theorem zo_if_lt {X : zM} {cc : ByteArray} {ws : List Cond} {own : String} {d MC MS : Nat} {pc : Nat} (C : zB X cc ws own d MC MS) {off : Int} {tg nt : Nat} (hd : decode cc pc = .ok (.ifCond .lt off, 3)) (ht : (pc : Int) + off = (tg : Int)) (hnt : pc + 3 = nt) : zOk X pc (o_if_lt tg nt) nt := by
  obtain ⟨⟨p, l, e, R⟩, ⟨s, m, args, below, meth, c⟩, ⟨D, dA, A, nL, Q⟩, ad0, N0⟩ := X
  obtain ⟨hx, hb, hml, hts, hown, hK, hlk, hA, hZ, hR, hfl⟩ := C
  intro K nx hJ hn ls st w k n h ad H locs la hag hN hP hD hS hl
  subst hnt
  unfold o_if_lt at h
  split at h
  · exact lv_if_lt hx hb hd ht (fun q => hJ _ _ _ _ _ _ (h.1 (by first | exact q | simpa using q)) ad H locs la hag hN hP hD hS hl) (fun q => hJ _ _ _ _ _ _ (h.2 (by first | exact q | simpa using q)) ad H locs la hag hN hP hD hS hl)
  · exact h.elim
def o_ic_ge (tg nt : Nat) (K : zK) (_ : zNx) (ls : zPL) (st : List Value) (w : zW) (k n : Nat) : Prop := match st with
  | .int y :: .int x :: st => (y ≤ x → K tg ls st w k n) ∧ (¬ (y ≤ x) → K nt ls st w k n)
  | _ => False
theorem zo_ic_ge {X : zM} {cc : ByteArray} {ws : List Cond} {own : String} {d MC MS : Nat} {pc : Nat} (C : zB X cc ws own d MC MS) {off : Int} {tg nt : Nat} (hd : decode cc pc = .ok (.if_icmp .ge off, 3)) (ht : (pc : Int) + off = (tg : Int)) (hnt : pc + 3 = nt) : zOk X pc (o_ic_ge tg nt) nt := by
  obtain ⟨⟨p, l, e, R⟩, ⟨s, m, args, below, meth, c⟩, ⟨D, dA, A, nL, Q⟩, ad0, N0⟩ := X
  obtain ⟨hx, hb, hml, hts, hown, hK, hlk, hA, hZ, hR, hfl⟩ := C
  intro K nx hJ hn ls st w k n h ad H locs la hag hN hP hD hS hl
  subst hnt
  unfold o_ic_ge at h
  split at h
  · exact lv_icmp_ge hx hb hd ht (fun q => hJ _ _ _ _ _ _ (h.1 (by first | exact q | simpa using q)) ad H locs la hag hN hP hD hS hl) (fun q => hJ _ _ _ _ _ _ (h.2 (by first | exact q | simpa using q)) ad H locs la hag hN hP hD hS hl)
  · exact h.elim
def o_if_ge (tg nt : Nat) (K : zK) (_ : zNx) (ls : zPL) (st : List Value) (w : zW) (k n : Nat) : Prop := match st with
  | .int x :: st => (0 ≤ x → K tg ls st w k n) ∧ (¬ (0 ≤ x) → K nt ls st w k n)
  | _ => False
theorem zo_if_ge {X : zM} {cc : ByteArray} {ws : List Cond} {own : String} {d MC MS : Nat} {pc : Nat} (C : zB X cc ws own d MC MS) {off : Int} {tg nt : Nat} (hd : decode cc pc = .ok (.ifCond .ge off, 3)) (ht : (pc : Int) + off = (tg : Int)) (hnt : pc + 3 = nt) : zOk X pc (o_if_ge tg nt) nt := by
  obtain ⟨⟨p, l, e, R⟩, ⟨s, m, args, below, meth, c⟩, ⟨D, dA, A, nL, Q⟩, ad0, N0⟩ := X
  obtain ⟨hx, hb, hml, hts, hown, hK, hlk, hA, hZ, hR, hfl⟩ := C
  intro K nx hJ hn ls st w k n h ad H locs la hag hN hP hD hS hl
  subst hnt
  unfold o_if_ge at h
  split at h
  · exact lv_if_ge hx hb hd ht (fun q => hJ _ _ _ _ _ _ (h.1 (by first | exact q | simpa using q)) ad H locs la hag hN hP hD hS hl) (fun q => hJ _ _ _ _ _ _ (h.2 (by first | exact q | simpa using q)) ad H locs la hag hN hP hD hS hl)
  · exact h.elim
def o_ic_gt (tg nt : Nat) (K : zK) (_ : zNx) (ls : zPL) (st : List Value) (w : zW) (k n : Nat) : Prop := match st with
  | .int y :: .int x :: st => (y < x → K tg ls st w k n) ∧ (¬ (y < x) → K nt ls st w k n)
  | _ => False
theorem zo_ic_gt {X : zM} {cc : ByteArray} {ws : List Cond} {own : String} {d MC MS : Nat} {pc : Nat} (C : zB X cc ws own d MC MS) {off : Int} {tg nt : Nat} (hd : decode cc pc = .ok (.if_icmp .gt off, 3)) (ht : (pc : Int) + off = (tg : Int)) (hnt : pc + 3 = nt) : zOk X pc (o_ic_gt tg nt) nt := by
  obtain ⟨⟨p, l, e, R⟩, ⟨s, m, args, below, meth, c⟩, ⟨D, dA, A, nL, Q⟩, ad0, N0⟩ := X
  obtain ⟨hx, hb, hml, hts, hown, hK, hlk, hA, hZ, hR, hfl⟩ := C
  intro K nx hJ hn ls st w k n h ad H locs la hag hN hP hD hS hl
  subst hnt
  unfold o_ic_gt at h
  split at h
  · exact lv_icmp_gt hx hb hd ht (fun q => hJ _ _ _ _ _ _ (h.1 (by first | exact q | simpa using q)) ad H locs la hag hN hP hD hS hl) (fun q => hJ _ _ _ _ _ _ (h.2 (by first | exact q | simpa using q)) ad H locs la hag hN hP hD hS hl)
  · exact h.elim
def o_if_gt (tg nt : Nat) (K : zK) (_ : zNx) (ls : zPL) (st : List Value) (w : zW) (k n : Nat) : Prop := match st with
  | .int x :: st => (0 < x → K tg ls st w k n) ∧ (¬ (0 < x) → K nt ls st w k n)
  | _ => False
theorem zo_if_gt {X : zM} {cc : ByteArray} {ws : List Cond} {own : String} {d MC MS : Nat} {pc : Nat} (C : zB X cc ws own d MC MS) {off : Int} {tg nt : Nat} (hd : decode cc pc = .ok (.ifCond .gt off, 3)) (ht : (pc : Int) + off = (tg : Int)) (hnt : pc + 3 = nt) : zOk X pc (o_if_gt tg nt) nt := by
  obtain ⟨⟨p, l, e, R⟩, ⟨s, m, args, below, meth, c⟩, ⟨D, dA, A, nL, Q⟩, ad0, N0⟩ := X
  obtain ⟨hx, hb, hml, hts, hown, hK, hlk, hA, hZ, hR, hfl⟩ := C
  intro K nx hJ hn ls st w k n h ad H locs la hag hN hP hD hS hl
  subst hnt
  unfold o_if_gt at h
  split at h
  · exact lv_if_gt hx hb hd ht (fun q => hJ _ _ _ _ _ _ (h.1 (by first | exact q | simpa using q)) ad H locs la hag hN hP hD hS hl) (fun q => hJ _ _ _ _ _ _ (h.2 (by first | exact q | simpa using q)) ad H locs la hag hN hP hD hS hl)
  · exact h.elim
def o_ic_le (tg nt : Nat) (K : zK) (_ : zNx) (ls : zPL) (st : List Value) (w : zW) (k n : Nat) : Prop := match st with
  | .int y :: .int x :: st => (x ≤ y → K tg ls st w k n) ∧ (¬ (x ≤ y) → K nt ls st w k n)
  | _ => False
theorem zo_ic_le {X : zM} {cc : ByteArray} {ws : List Cond} {own : String} {d MC MS : Nat} {pc : Nat} (C : zB X cc ws own d MC MS) {off : Int} {tg nt : Nat} (hd : decode cc pc = .ok (.if_icmp .le off, 3)) (ht : (pc : Int) + off = (tg : Int)) (hnt : pc + 3 = nt) : zOk X pc (o_ic_le tg nt) nt := by
  obtain ⟨⟨p, l, e, R⟩, ⟨s, m, args, below, meth, c⟩, ⟨D, dA, A, nL, Q⟩, ad0, N0⟩ := X
  obtain ⟨hx, hb, hml, hts, hown, hK, hlk, hA, hZ, hR, hfl⟩ := C
  intro K nx hJ hn ls st w k n h ad H locs la hag hN hP hD hS hl
  subst hnt
  unfold o_ic_le at h
  split at h
  · exact lv_icmp_le hx hb hd ht (fun q => hJ _ _ _ _ _ _ (h.1 (by first | exact q | simpa using q)) ad H locs la hag hN hP hD hS hl) (fun q => hJ _ _ _ _ _ _ (h.2 (by first | exact q | simpa using q)) ad H locs la hag hN hP hD hS hl)
  · exact h.elim
def o_if_le (tg nt : Nat) (K : zK) (_ : zNx) (ls : zPL) (st : List Value) (w : zW) (k n : Nat) : Prop := match st with
  | .int x :: st => (x ≤ 0 → K tg ls st w k n) ∧ (¬ (x ≤ 0) → K nt ls st w k n)
  | _ => False
theorem zo_if_le {X : zM} {cc : ByteArray} {ws : List Cond} {own : String} {d MC MS : Nat} {pc : Nat} (C : zB X cc ws own d MC MS) {off : Int} {tg nt : Nat} (hd : decode cc pc = .ok (.ifCond .le off, 3)) (ht : (pc : Int) + off = (tg : Int)) (hnt : pc + 3 = nt) : zOk X pc (o_if_le tg nt) nt := by
  obtain ⟨⟨p, l, e, R⟩, ⟨s, m, args, below, meth, c⟩, ⟨D, dA, A, nL, Q⟩, ad0, N0⟩ := X
  obtain ⟨hx, hb, hml, hts, hown, hK, hlk, hA, hZ, hR, hfl⟩ := C
  intro K nx hJ hn ls st w k n h ad H locs la hag hN hP hD hS hl
  subst hnt
  unfold o_if_le at h
  split at h
  · exact lv_if_le hx hb hd ht (fun q => hJ _ _ _ _ _ _ (h.1 (by first | exact q | simpa using q)) ad H locs la hag hN hP hD hS hl) (fun q => hJ _ _ _ _ _ _ (h.2 (by first | exact q | simpa using q)) ad H locs la hag hN hP hD hS hl)
  · exact h.elim
def o_goto (tg : Nat) (K : zK) (_ : zNx) (ls : zPL) (st : List Value) (w : zW) (k n : Nat) : Prop := K tg ls st w k n
theorem zo_goto {X : zM} {cc : ByteArray} {ws : List Cond} {own : String} {d MC MS : Nat} {pc : Nat} (C : zB X cc ws own d MC MS) {off : Int} {tg : Nat} (hd : decode cc pc = .ok (.goto off, 3)) (ht : (pc : Int) + off = (tg : Int)) : zOk X pc (o_goto tg) (pc + 3) := by
  obtain ⟨⟨p, l, e, R⟩, ⟨s, m, args, below, meth, c⟩, ⟨D, dA, A, nL, Q⟩, ad0, N0⟩ := X
  obtain ⟨hx, hb, hml, hts, hown, hK, hlk, hA, hZ, hR, hfl⟩ := C
  intro K nx hJ hn ls st w k n h ad H locs la hag hN hP hD hS hl
  exact lv_goto hx hb hd ht (hJ _ _ _ _ _ _ h ad H locs la hag hN hP hD hS hl)
end ZZ2
