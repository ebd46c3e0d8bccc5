/-! CONSTRUCTORS: methods whose world grows -/
section CI
/-- a constructor's end: its world has grown to one of which Φ holds; the old cells stand where they stood -/
def zQI (D : va_G) (dA : Nat → ClassId) (ad : Nat → Nat) (w : zW) (A : Nat → Prop) (Φ : zW → Prop) : Array Value → State → Outcome → State → Prop := fun _ st oc t => (∃ (w' : zW) (ad' : Nat → Nat), oc = .returned none ∧ Φ w' ∧ w.length ≤ w'.length ∧ zag w.length w'.length ad' ad ∧ va_P D vwCl (zw dA ad' w') t.heap ∧ va_D A (zw dA ad' w')) ∧ va_F A st t
def CanI (l : Launch) (y : MethodName) (ws : List Cond) (d mc ms : Nat) (av : List Value) (w : zW) (Φ : zW → Prop) : Prop :=
  ∀ (D : va_G) (dA : Nat → ClassId) (ad : Nat → Nat) (sz : Nat), Met l y ws (zRoom d mc ms) (va_Pc (av.map (zv ad)) (zPre D dA ad w sz)) (zQI D dA ad w (va_A (zw dA ad w) sz) Φ) mc ms (va_A (zw dA ad w) sz)
theorem CanI.mono {l : Launch} {y : MethodName} {ws : List Cond} {d mc ms : Nat} {av : List Value} {w : zW} {Φ Ψ : zW → Prop} (h : CanI l y ws d mc ms av w Φ) (hi : ∀ w', Φ w' → Ψ w') : CanI l y ws d mc ms av w Ψ := fun D dA ad sz =>
  met_mono (h D dA ad sz) (fun _ _ h => h) (fun _ _ _ _ _ ⟨⟨w', ad', h1, h2, h3⟩, h4⟩ => ⟨⟨w', ad', h1, hi _ h2, h3⟩, h4⟩) (fun _ h => h)
def zM9I (X : zM) (ret : Option FieldType) (w0 : zW) (MC MS : Nat) (Φ : zW → Prop) : Prop := match X with
  | ((p, l, e, R), (s, m, args, below, meth, c), (D, dA, A, nL, Q), (ad0, N0)) => meth.sig.returnType = ret ∧ N0 = w0.length ∧ (∀ (H : Heap) (locs : List Loc) (g : JFrame), W p l e R s m args below meth c H locs MC MS (MQ below (zQI D dA ad0 w0 A Φ) args s MC MS A) g → W p l e R s m args below meth c H locs MC MS Q g)
def oVretI (Φ : zW → Prop) (N MC MS : Nat) (_ : zK) (_ : zNx) (_ : zPL) (st : List Value) (w : zW) (k n : Nat) : Prop := match st with
  | [] => Φ w ∧ N ≤ w.length ∧ k ≤ MC ∧ n ≤ MS
  | _ => False
theorem zo_VretI {X : zM} {cc : ByteArray} {ws : List Cond} {own : String} {d MC MS : Nat} {pc : Nat} {w0 : zW} {Φ : zW → Prop} {ret : Option FieldType} (C : zB X cc ws own d MC MS) (E : zM9I X ret w0 MC MS Φ) (hd : decode cc pc = .ok (.return_, 1)) (hty : ret = none) : zOk X pc (oVretI Φ w0.length MC MS) (pc + 1) := by
  obtain ⟨⟨p, l, e, R⟩, ⟨s, m, args, below, meth, c⟩, ⟨D, dA, A, nL, Q⟩, ad0, N0⟩ := X
  obtain ⟨hx, hb, hml, hts, hown, hK, hlk, hA, hZ, hR, hfl⟩ := C
  obtain ⟨hret, hN0, hQ⟩ := E
  have hN0 : N0 = w0.length := hN0
  intro K nx hJ hn ls st w k n h ad H locs la hag hN hP hD hS hl
  unfold oVretI at h
  split at h
  · obtain ⟨hΦ, hlen, h1, h2⟩ := h
    rw [hN0] at hag
    exact W.widen h1 h2 (hQ _ _ _ (W.vret hx hb (hret.trans hty) (fun t ht hW => ⟨⟨w, ad, rfl, hΦ, hlen, hag, by rw [ht]; exact hP, hD⟩, hS.F ht⟩) hS.2.2 hd hlk))
  · exact h.elim
theorem zMethI {l : Launch} {y : MethodName} {ws ws' : List Cond} {cc : ByteArray} {maxL d mc ms : Nat} {ret : Option FieldType} {av : List Value} {w : zW} {Φ : zW → Prop} {lv : zPL} (hfl : l.stackTraces = false) (hy : plainName y.cls = true) (hyn : y.name = "<init>") (hw : ws = Cond.code y cc maxL ret :: ws') (hlen : lv.length = maxL)
    (hlv : ∀ ad : Nat → Nat, lv_args 0 (av.map (zv ad)) = zAs ad 0 lv) (hsl : ∀ ad : Nat → Nat, (lg_sl (av.map (zv ad))).length ≤ maxL)
    (body : ∀ X : zM, X.1.2.1 = l → zB X cc ws y.cls d mc ms → zM9I X ret w mc ms Φ → zIni X → zAt X 0 lv [] w 0 0) : CanI l y ws d mc ms av w Φ := by
  intro D dA ad sz
  refine Met.ofW (cc := cc) (maxL := maxL) (ret := ret) hy hw ?_
  intro p e s m args below meth c s₁ B hml hv
  obtain ⟨rfl, rfl, h1, h2, h3, h4⟩ := hv
  have hin : meth.name = "<init>" := (name_of_methodNamed B.named B.method).1.trans hyn
  have h := body ((p, l, e, (headSpec ws (zRoom d mc ms)).room), (s, m, ((av.map (zv ad)).toArray), below, meth, c), (D, dA, va_A (zw dA ad w) s.heap.size, maxL, MQ below (zQI D dA ad w (va_A (zw dA ad w) s.heap.size) Φ) (av.map (zv ad)).toArray s mc ms (va_A (zw dA ad w) s.heap.size)), (ad, w.length)) rfl
    ⟨B.exec, B.bytes, hml, atoms_spec (ws := ws) B.pre, findClass_of_methodNamed B.named, h2, B.notSynchronized, fun q hq => Or.inr hq, h4, ⟨Nat.le_refl _, Nat.le_refl _, Nat.le_refl _, Nat.le_refl _⟩, hfl⟩
    ⟨B.returns, rfl, fun H locs g k => k⟩ hin
  have hl := lv_entry (av.map (zv ad)) (n := maxL) (hsl ad)
  rw [hlv ad] at hl
  rw [lg_entry_eq]
  exact h ad s.heap [] _ (fun _ _ => rfl) (Nat.le_refl _) h1 h3.self va_S.rf ⟨hlen, hl⟩
/-- a constructor's call: what stands in locals, stack and world must be closed, for the world grows behind it -/
def oCallI (l : Launch) (y : MethodName) (wsy : List Cond) (na : Nat) (d MC MS : Nat) (_ : zK) (nx : zNx) (ls : zPL) (st : List Value) (w : zW) (k n : Nat) : Prop := match zpop na st [] with
  | some (av, rest) => (zShort rest = true ∧ (∃ a as, av = Value.ref a :: as) ∧ zclW w.length w ∧ zclL w.length ls ∧ zclS w.length rest) ∧ ∃ d' mc' ms', (d' + 1 ≤ d ∧ k + mc' ≤ MC ∧ n + ms' ≤ MS) ∧ CanI l y wsy d' mc' ms' av w (fun w' => nx ls rest w' (k + mc') (n + ms'))
  | none => False
end CI
