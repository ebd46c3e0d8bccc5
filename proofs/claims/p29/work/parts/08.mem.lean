/-! THE LAYER, 3: fields, arrays, ends, calls, methods -/
section ZZ3
def zIni : zM → Prop := fun X => match X with
  | ((p, l, e, R), (s, m, args, below, meth, c), _) => meth.name = "<init>"
theorem zw_set' {dA : Nat → ClassId} {ad : Nat → Nat} {w : zW} {a : Nat} {e : zE} {va : va_E} (he : va = ze dA ad e) : (zw dA ad w).set a (ad a, va) = zw dA ad (w.set a e) := by rw [he]; exact zw_set dA ad w a e
theorem zag_set {N0 a : Nat} {w : zW} {e : zE} {ad ad0 : Nat → Nat} (h : zag N0 w.length ad ad0) : zag N0 (w.set a e).length ad ad0 := by rw [List.length_set]; exact h
theorem zlen_set {N0 a : Nat} {w : zW} {e : zE} (h : N0 ≤ w.length) : N0 ≤ (w.set a e).length := by rw [List.length_set]; exact h
theorem zrf_map (ad : Nat → Nat) (r : Option Nat) : va_rf (r.map ad) = zv ad (va_rf r) := by cases r <;> rfl
def oGetf (ci j : Nat) (_ : zK) (nx : zNx) (ls : zPL) (st : List Value) (w : zW) (k n : Nat) : Prop := match st with
  | .ref a :: st => match zg w a with
    | some (.inr (c, fs)) => match zg fs j with
      | some v => c = ci ∧ nx ls (v :: st) w k n
      | _ => False
    | _ => False
  | _ => False
theorem zo_getf {X : zM} {cc : ByteArray} {ws : List Cond} {own : String} {d MC MS : Nat} {pc : Nat} (C : zB X cc ws own d MC MS) {i ci j N : Nat} {T : u_T} {Cn : String} (hd : decode cc pc = .ok (.getfield i, 3)) (hc : vwCl[ci]? = some (Cn, T, N)) (hin : ∀ w ∈ u_ws Cn T N, w ∈ ws) (hj : j < N) (hlink : Cond.fieldLink own i (T j).1 (T j).2.1 (T j).2.2.1 ∈ ws) : zOk X pc (oGetf ci j) (pc + 3) := by
  obtain ⟨⟨p, l, e, R⟩, ⟨s, m, args, below, meth, c⟩, ⟨D, dA, A, nL, Q⟩, ad0, N0⟩ := X
  obtain ⟨hx, hb, hml, hts, hown, hK, hlk, hA, hZ, hR, hfl⟩ := C
  intro K nx hJ hn ls st w k n h ad H locs la hag hN hP hD hS hl
  unfold oGetf at h
  split at h
  · rename_i a st
    split at h
    · rename_i c9 fs hg
      split at h
      · rename_i v hv
        obtain ⟨rfl, h⟩ := h
        exact va_get hx hb hts hin hown hK hP a (zw_at (zg_some hg)) hc j hj (hts _ hlink) (fun _ h9 => h9) (v := zv ad v) (by rw [List.getElem?_map, zg_some hv]; rfl) hd (hn _ _ _ _ _ h ad H locs la hag hN hP hD hS hl)
      · exact h.elim
    · exact h.elim
  · exact h.elim
def oPutI (ci j : Nat) (_ : zK) (nx : zNx) (ls : zPL) (st : List Value) (w : zW) (k n : Nat) : Prop := match st with
  | .int x :: .ref a :: st => match zg w a with
    | some (.inr (c, fs)) => (c = ci ∧ j < fs.length) ∧ nx ls st (w.set a (.inr (c, fs.set j (.int x)))) k n
    | _ => False
  | _ => False
theorem zo_putI {X : zM} {cc : ByteArray} {ws : List Cond} {own : String} {d MC MS : Nat} {pc : Nat} (C : zB X cc ws own d MC MS) {i ci j N : Nat} {T : u_T} {Cn : String} (hd : decode cc pc = .ok (.putfield i, 3)) (hc : vwCl[ci]? = some (Cn, T, N)) (hin : ∀ w ∈ u_ws Cn T N, w ∈ ws) (hj : j < N) (hlink : Cond.fieldLink own i (T j).1 (T j).2.1 (T j).2.2.1 ∈ ws) {tf : Nat → FieldType} (hty : ∀ k, k < N → parseFieldDescriptor (T k).2.2.1 = some (tf k)) (hnm : ∀ a, a < N → ∀ b, b < N → a ≠ b → (T a).2.1 ≠ (T b).2.1) (htj : tf j = .int) (hfin : (T j).2.2.2 = false) : zOk X pc (oPutI ci j) (pc + 3) := by
  obtain ⟨⟨p, l, e, R⟩, ⟨s, m, args, below, meth, c⟩, ⟨D, dA, A, nL, Q⟩, ad0, N0⟩ := X
  obtain ⟨hx, hb, hml, hts, hown, hK, hlk, hA, hZ, hR, hfl⟩ := C
  intro K nx hJ hn ls st w k n h ad H locs la hag hN hP hD hS hl
  unfold oPutI at h
  split at h
  · rename_i x a st
    split at h
    · rename_i c9 fs hg
      obtain ⟨h0, h⟩ := h
      obtain ⟨rfl, h2⟩ := h0
      refine va_put hx hb hts hin tf hty hnm hown hK hP hD hS a (zw_at (zg_some hg)) hc j hj (hts _ hlink) (fun _ h9 => h9) hfin (v := .int x) (hty j hj) (by rw [htj]; rfl) (by rw [htj]; rfl) (by rw [List.length_map]; exact h2) hd (fun H1 locs1 hP1 hD1 hS1 => ?_)
      have e9 : (.inr (c9, (fs.map (zv ad)).set j (.int x)) : va_E) = ze dA ad (.inr (c9, fs.set j (.int x))) := by
        show _ = (.inr (c9, (fs.set j _).map (zv ad)) : va_E)
        rw [List.map_set]; rfl
      rw [zw_set' e9] at hP1 hD1
      exact hn _ _ _ _ _ h ad H1 locs1 la (zag_set hag) (zlen_set hN) hP1 hD1 hS1 hl
    · exact h.elim
  · exact h.elim
theorem zo_putIF {X : zM} {cc : ByteArray} {ws : List Cond} {own : String} {d MC MS : Nat} {pc : Nat} (C : zB X cc ws own d MC MS) {i ci j N : Nat} {T : u_T} {Cn : String} (hd : decode cc pc = .ok (.putfield i, 3)) (hc : vwCl[ci]? = some (Cn, T, N)) (hin : ∀ w ∈ u_ws Cn T N, w ∈ ws) (hj : j < N) (hlink : Cond.fieldLink own i (T j).1 (T j).2.1 (T j).2.2.1 ∈ ws) {tf : Nat → FieldType} (hty : ∀ k, k < N → parseFieldDescriptor (T k).2.2.1 = some (tf k)) (hnm : ∀ a, a < N → ∀ b, b < N → a ≠ b → (T a).2.1 ≠ (T b).2.1) (htj : tf j = .int) (hfin : (T j).2.2.2 = true) (hini : zIni X) (hdc : (T j).1 = own) : zOk X pc (oPutI ci j) (pc + 3) := by
  obtain ⟨⟨p, l, e, R⟩, ⟨s, m, args, below, meth, c⟩, ⟨D, dA, A, nL, Q⟩, ad0, N0⟩ := X
  obtain ⟨hx, hb, hml, hts, hown, hK, hlk, hA, hZ, hR, hfl⟩ := C
  intro K nx hJ hn ls st w k n h ad H locs la hag hN hP hD hS hl
  unfold oPutI at h
  split at h
  · rename_i x a st
    split at h
    · rename_i c9 fs hg
      obtain ⟨h0, h⟩ := h
      obtain ⟨rfl, h2⟩ := h0
      refine va_putF hx hb hts hin tf hty hnm hown hK hP hD hS a (zw_at (zg_some hg)) hc j hj (hts _ hlink) (fun _ h9 => h9) hfin hini hdc (v := .int x) (hty j hj) (by rw [htj]; rfl) (by rw [htj]; rfl) (by rw [List.length_map]; exact h2) hd (fun H1 locs1 hP1 hD1 hS1 => ?_)
      have e9 : (.inr (c9, (fs.map (zv ad)).set j (.int x)) : va_E) = ze dA ad (.inr (c9, fs.set j (.int x))) := by
        show _ = (.inr (c9, (fs.set j _).map (zv ad)) : va_E)
        rw [List.map_set]; rfl
      rw [zw_set' e9] at hP1 hD1
      exact hn _ _ _ _ _ h ad H1 locs1 la (zag_set hag) (zlen_set hN) hP1 hD1 hS1 hl
    · exact h.elim
  · exact h.elim
def oPutZ (ci j : Nat) (_ : zK) (nx : zNx) (ls : zPL) (st : List Value) (w : zW) (k n : Nat) : Prop := match st with
  | .int x :: .ref a :: st => match zg w a with
    | some (.inr (c, fs)) => (c = ci ∧ j < fs.length ∧ (x = 0 ∨ x = 1)) ∧ nx ls st (w.set a (.inr (c, fs.set j (.int x)))) k n
    | _ => False
  | _ => False
theorem zo_putZ {X : zM} {cc : ByteArray} {ws : List Cond} {own : String} {d MC MS : Nat} {pc : Nat} (C : zB X cc ws own d MC MS) {i ci j N : Nat} {T : u_T} {Cn : String} (hd : decode cc pc = .ok (.putfield i, 3)) (hc : vwCl[ci]? = some (Cn, T, N)) (hin : ∀ w ∈ u_ws Cn T N, w ∈ ws) (hj : j < N) (hlink : Cond.fieldLink own i (T j).1 (T j).2.1 (T j).2.2.1 ∈ ws) {tf : Nat → FieldType} (hty : ∀ k, k < N → parseFieldDescriptor (T k).2.2.1 = some (tf k)) (hnm : ∀ a, a < N → ∀ b, b < N → a ≠ b → (T a).2.1 ≠ (T b).2.1) (htj : tf j = .boolean) (hfin : (T j).2.2.2 = false) : zOk X pc (oPutZ ci j) (pc + 3) := by
  obtain ⟨⟨p, l, e, R⟩, ⟨s, m, args, below, meth, c⟩, ⟨D, dA, A, nL, Q⟩, ad0, N0⟩ := X
  obtain ⟨hx, hb, hml, hts, hown, hK, hlk, hA, hZ, hR, hfl⟩ := C
  intro K nx hJ hn ls st w k n h ad H locs la hag hN hP hD hS hl
  unfold oPutZ at h
  split at h
  · rename_i x a st
    split at h
    · rename_i c9 fs hg
      obtain ⟨h0, h⟩ := h
      obtain ⟨rfl, h2, h3⟩ := h0
      refine va_put hx hb hts hin tf hty hnm hown hK hP hD hS a (zw_at (zg_some hg)) hc j hj (hts _ hlink) (fun _ h9 => h9) hfin (v := .int x) (hty j hj) (by rw [htj]; rcases h3 with rfl | rfl <;> rfl) (by rw [htj]; rcases h3 with rfl | rfl <;> rfl) (by rw [List.length_map]; exact h2) hd (fun H1 locs1 hP1 hD1 hS1 => ?_)
      have e9 : (.inr (c9, (fs.map (zv ad)).set j (.int x)) : va_E) = ze dA ad (.inr (c9, fs.set j (.int x))) := by
        show _ = (.inr (c9, (fs.set j _).map (zv ad)) : va_E)
        rw [List.map_set]; rfl
      rw [zw_set' e9] at hP1 hD1
      exact hn _ _ _ _ _ h ad H1 locs1 la (zag_set hag) (zlen_set hN) hP1 hD1 hS1 hl
    · exact h.elim
  · exact h.elim
theorem zo_putZF {X : zM} {cc : ByteArray} {ws : List Cond} {own : String} {d MC MS : Nat} {pc : Nat} (C : zB X cc ws own d MC MS) {i ci j N : Nat} {T : u_T} {Cn : String} (hd : decode cc pc = .ok (.putfield i, 3)) (hc : vwCl[ci]? = some (Cn, T, N)) (hin : ∀ w ∈ u_ws Cn T N, w ∈ ws) (hj : j < N) (hlink : Cond.fieldLink own i (T j).1 (T j).2.1 (T j).2.2.1 ∈ ws) {tf : Nat → FieldType} (hty : ∀ k, k < N → parseFieldDescriptor (T k).2.2.1 = some (tf k)) (hnm : ∀ a, a < N → ∀ b, b < N → a ≠ b → (T a).2.1 ≠ (T b).2.1) (htj : tf j = .boolean) (hfin : (T j).2.2.2 = true) (hini : zIni X) (hdc : (T j).1 = own) : zOk X pc (oPutZ ci j) (pc + 3) := by
  obtain ⟨⟨p, l, e, R⟩, ⟨s, m, args, below, meth, c⟩, ⟨D, dA, A, nL, Q⟩, ad0, N0⟩ := X
  obtain ⟨hx, hb, hml, hts, hown, hK, hlk, hA, hZ, hR, hfl⟩ := C
  intro K nx hJ hn ls st w k n h ad H locs la hag hN hP hD hS hl
  unfold oPutZ at h
  split at h
  · rename_i x a st
    split at h
    · rename_i c9 fs hg
      obtain ⟨h0, h⟩ := h
      obtain ⟨rfl, h2, h3⟩ := h0
      refine va_putF hx hb hts hin tf hty hnm hown hK hP hD hS a (zw_at (zg_some hg)) hc j hj (hts _ hlink) (fun _ h9 => h9) hfin hini hdc (v := .int x) (hty j hj) (by rw [htj]; rcases h3 with rfl | rfl <;> rfl) (by rw [htj]; rcases h3 with rfl | rfl <;> rfl) (by rw [List.length_map]; exact h2) hd (fun H1 locs1 hP1 hD1 hS1 => ?_)
      have e9 : (.inr (c9, (fs.map (zv ad)).set j (.int x)) : va_E) = ze dA ad (.inr (c9, fs.set j (.int x))) := by
        show _ = (.inr (c9, (fs.set j _).map (zv ad)) : va_E)
        rw [List.map_set]; rfl
      rw [zw_set' e9] at hP1 hD1
      exact hn _ _ _ _ _ h ad H1 locs1 la (zag_set hag) (zlen_set hN) hP1 hD1 hS1 hl
    · exact h.elim
  · exact h.elim
def oPutJ (ci j : Nat) (_ : zK) (nx : zNx) (ls : zPL) (st : List Value) (w : zW) (k n : Nat) : Prop := match st with
  | .long x :: .ref a :: st => match zg w a with
    | some (.inr (c, fs)) => (c = ci ∧ j < fs.length) ∧ nx ls st (w.set a (.inr (c, fs.set j (.long x)))) k n
    | _ => False
  | _ => False
theorem zo_putJ {X : zM} {cc : ByteArray} {ws : List Cond} {own : String} {d MC MS : Nat} {pc : Nat} (C : zB X cc ws own d MC MS) {i ci j N : Nat} {T : u_T} {Cn : String} (hd : decode cc pc = .ok (.putfield i, 3)) (hc : vwCl[ci]? = some (Cn, T, N)) (hin : ∀ w ∈ u_ws Cn T N, w ∈ ws) (hj : j < N) (hlink : Cond.fieldLink own i (T j).1 (T j).2.1 (T j).2.2.1 ∈ ws) {tf : Nat → FieldType} (hty : ∀ k, k < N → parseFieldDescriptor (T k).2.2.1 = some (tf k)) (hnm : ∀ a, a < N → ∀ b, b < N → a ≠ b → (T a).2.1 ≠ (T b).2.1) (htj : tf j = .long) (hfin : (T j).2.2.2 = false) : zOk X pc (oPutJ ci j) (pc + 3) := by
  obtain ⟨⟨p, l, e, R⟩, ⟨s, m, args, below, meth, c⟩, ⟨D, dA, A, nL, Q⟩, ad0, N0⟩ := X
  obtain ⟨hx, hb, hml, hts, hown, hK, hlk, hA, hZ, hR, hfl⟩ := C
  intro K nx hJ hn ls st w k n h ad H locs la hag hN hP hD hS hl
  unfold oPutJ at h
  split at h
  · rename_i x a st
    split at h
    · rename_i c9 fs hg
      obtain ⟨h0, h⟩ := h
      obtain ⟨rfl, h2⟩ := h0
      refine va_put hx hb hts hin tf hty hnm hown hK hP hD hS a (zw_at (zg_some hg)) hc j hj (hts _ hlink) (fun _ h9 => h9) hfin (v := .long x) (hty j hj) (by rw [htj]; rfl) (by rw [htj]; rfl) (by rw [List.length_map]; exact h2) hd (fun H1 locs1 hP1 hD1 hS1 => ?_)
      have e9 : (.inr (c9, (fs.map (zv ad)).set j (.long x)) : va_E) = ze dA ad (.inr (c9, fs.set j (.long x))) := by
        show _ = (.inr (c9, (fs.set j _).map (zv ad)) : va_E)
        rw [List.map_set]; rfl
      rw [zw_set' e9] at hP1 hD1
      exact hn _ _ _ _ _ h ad H1 locs1 la (zag_set hag) (zlen_set hN) hP1 hD1 hS1 hl
    · exact h.elim
  · exact h.elim
theorem zo_putJF {X : zM} {cc : ByteArray} {ws : List Cond} {own : String} {d MC MS : Nat} {pc : Nat} (C : zB X cc ws own d MC MS) {i ci j N : Nat} {T : u_T} {Cn : String} (hd : decode cc pc = .ok (.putfield i, 3)) (hc : vwCl[ci]? = some (Cn, T, N)) (hin : ∀ w ∈ u_ws Cn T N, w ∈ ws) (hj : j < N) (hlink : Cond.fieldLink own i (T j).1 (T j).2.1 (T j).2.2.1 ∈ ws) {tf : Nat → FieldType} (hty : ∀ k, k < N → parseFieldDescriptor (T k).2.2.1 = some (tf k)) (hnm : ∀ a, a < N → ∀ b, b < N → a ≠ b → (T a).2.1 ≠ (T b).2.1) (htj : tf j = .long) (hfin : (T j).2.2.2 = true) (hini : zIni X) (hdc : (T j).1 = own) : zOk X pc (oPutJ ci j) (pc + 3) := by
  obtain ⟨⟨p, l, e, R⟩, ⟨s, m, args, below, meth, c⟩, ⟨D, dA, A, nL, Q⟩, ad0, N0⟩ := X
  obtain ⟨hx, hb, hml, hts, hown, hK, hlk, hA, hZ, hR, hfl⟩ := C
  intro K nx hJ hn ls st w k n h ad H locs la hag hN hP hD hS hl
  unfold oPutJ at h
  split at h
  · rename_i x a st
    split at h
    · rename_i c9 fs hg
      obtain ⟨h0, h⟩ := h
      obtain ⟨rfl, h2⟩ := h0
      refine va_putF hx hb hts hin tf hty hnm hown hK hP hD hS a (zw_at (zg_some hg)) hc j hj (hts _ hlink) (fun _ h9 => h9) hfin hini hdc (v := .long x) (hty j hj) (by rw [htj]; rfl) (by rw [htj]; rfl) (by rw [List.length_map]; exact h2) hd (fun H1 locs1 hP1 hD1 hS1 => ?_)
      have e9 : (.inr (c9, (fs.map (zv ad)).set j (.long x)) : va_E) = ze dA ad (.inr (c9, fs.set j (.long x))) := by
        show _ = (.inr (c9, (fs.set j _).map (zv ad)) : va_E)
        rw [List.map_set]; rfl
      rw [zw_set' e9] at hP1 hD1
      exact hn _ _ _ _ _ h ad H1 locs1 la (zag_set hag) (zlen_set hN) hP1 hD1 hS1 hl
    · exact h.elim
  · exact h.elim
def oPutA (ci j : Nat) (_ : zK) (nx : zNx) (ls : zPL) (st : List Value) (w : zW) (k n : Nat) : Prop := match st with
  | .ref x :: .ref a :: st => match zg w a with
    | some (.inr (c, fs)) => (c = ci ∧ j < fs.length) ∧ nx ls st (w.set a (.inr (c, fs.set j (.ref x)))) k n
    | _ => False
  | _ => False
theorem zo_putA {X : zM} {cc : ByteArray} {ws : List Cond} {own : String} {d MC MS : Nat} {pc : Nat} (C : zB X cc ws own d MC MS) {i ci j N : Nat} {T : u_T} {Cn : String} (hd : decode cc pc = .ok (.putfield i, 3)) (hc : vwCl[ci]? = some (Cn, T, N)) (hin : ∀ w ∈ u_ws Cn T N, w ∈ ws) (hj : j < N) (hlink : Cond.fieldLink own i (T j).1 (T j).2.1 (T j).2.2.1 ∈ ws) {tf : Nat → FieldType} (hty : ∀ k, k < N → parseFieldDescriptor (T k).2.2.1 = some (tf k)) (hnm : ∀ a, a < N → ∀ b, b < N → a ≠ b → (T a).2.1 ≠ (T b).2.1) (htj : (tf j = .array .int ∨ tf j = .array .byte ∨ tf j = .array .boolean) ∨ (∃ C9, tf j = .object C9) ∨ ∃ t9, tf j = .array t9) (hfin : (T j).2.2.2 = false) : zOk X pc (oPutA ci j) (pc + 3) := by
  obtain ⟨⟨p, l, e, R⟩, ⟨s, m, args, below, meth, c⟩, ⟨D, dA, A, nL, Q⟩, ad0, N0⟩ := X
  obtain ⟨hx, hb, hml, hts, hown, hK, hlk, hA, hZ, hR, hfl⟩ := C
  intro K nx hJ hn ls st w k n h ad H locs la hag hN hP hD hS hl
  unfold oPutA at h
  split at h
  · rename_i x a st
    split at h
    · rename_i c9 fs hg
      obtain ⟨h0, h⟩ := h
      obtain ⟨rfl, h2⟩ := h0
      refine va_put hx hb hts hin tf hty hnm hown hK hP hD hS a (zw_at (zg_some hg)) hc j hj (hts _ hlink) (fun _ h9 => h9) hfin (v := .ref (ad x)) (hty j hj) (by rcases htj with (q | q | q) | ⟨C9, q⟩ | ⟨t9, q⟩ <;> rw [q] <;> rfl) (by rcases htj with (q | q | q) | ⟨C9, q⟩ | ⟨t9, q⟩ <;> rw [q] <;> rfl) (by rw [List.length_map]; exact h2) hd (fun H1 locs1 hP1 hD1 hS1 => ?_)
      have e9 : (.inr (c9, (fs.map (zv ad)).set j (.ref (ad x))) : va_E) = ze dA ad (.inr (c9, fs.set j (.ref x))) := by
        show _ = (.inr (c9, (fs.set j _).map (zv ad)) : va_E)
        rw [List.map_set]; rfl
      rw [zw_set' e9] at hP1 hD1
      exact hn _ _ _ _ _ h ad H1 locs1 la (zag_set hag) (zlen_set hN) hP1 hD1 hS1 hl
    · exact h.elim
  · exact h.elim
theorem zo_putAF {X : zM} {cc : ByteArray} {ws : List Cond} {own : String} {d MC MS : Nat} {pc : Nat} (C : zB X cc ws own d MC MS) {i ci j N : Nat} {T : u_T} {Cn : String} (hd : decode cc pc = .ok (.putfield i, 3)) (hc : vwCl[ci]? = some (Cn, T, N)) (hin : ∀ w ∈ u_ws Cn T N, w ∈ ws) (hj : j < N) (hlink : Cond.fieldLink own i (T j).1 (T j).2.1 (T j).2.2.1 ∈ ws) {tf : Nat → FieldType} (hty : ∀ k, k < N → parseFieldDescriptor (T k).2.2.1 = some (tf k)) (hnm : ∀ a, a < N → ∀ b, b < N → a ≠ b → (T a).2.1 ≠ (T b).2.1) (htj : (tf j = .array .int ∨ tf j = .array .byte ∨ tf j = .array .boolean) ∨ (∃ C9, tf j = .object C9) ∨ ∃ t9, tf j = .array t9) (hfin : (T j).2.2.2 = true) (hini : zIni X) (hdc : (T j).1 = own) : zOk X pc (oPutA ci j) (pc + 3) := by
  obtain ⟨⟨p, l, e, R⟩, ⟨s, m, args, below, meth, c⟩, ⟨D, dA, A, nL, Q⟩, ad0, N0⟩ := X
  obtain ⟨hx, hb, hml, hts, hown, hK, hlk, hA, hZ, hR, hfl⟩ := C
  intro K nx hJ hn ls st w k n h ad H locs la hag hN hP hD hS hl
  unfold oPutA at h
  split at h
  · rename_i x a st
    split at h
    · rename_i c9 fs hg
      obtain ⟨h0, h⟩ := h
      obtain ⟨rfl, h2⟩ := h0
      refine va_putF hx hb hts hin tf hty hnm hown hK hP hD hS a (zw_at (zg_some hg)) hc j hj (hts _ hlink) (fun _ h9 => h9) hfin hini hdc (v := .ref (ad x)) (hty j hj) (by rcases htj with (q | q | q) | ⟨C9, q⟩ | ⟨t9, q⟩ <;> rw [q] <;> rfl) (by rcases htj with (q | q | q) | ⟨C9, q⟩ | ⟨t9, q⟩ <;> rw [q] <;> rfl) (by rw [List.length_map]; exact h2) hd (fun H1 locs1 hP1 hD1 hS1 => ?_)
      have e9 : (.inr (c9, (fs.map (zv ad)).set j (.ref (ad x))) : va_E) = ze dA ad (.inr (c9, fs.set j (.ref x))) := by
        show _ = (.inr (c9, (fs.set j _).map (zv ad)) : va_E)
        rw [List.map_set]; rfl
      rw [zw_set' e9] at hP1 hD1
      exact hn _ _ _ _ _ h ad H1 locs1 la (zag_set hag) (zlen_set hN) hP1 hD1 hS1 hl
    · exact h.elim
  · exact h.elim
def oIald  (_ : zK) (nx : zNx) (ls : zPL) (st : List Value) (w : zW) (k n : Nat) : Prop := match st with
  | .int i :: .ref a :: st => match zg w a with
    | some (.inl (0, (len, .inl f))) => vp_in i len ∧ nx ls (.int (f i.toNatClampNeg) :: st) w k n
    | _ => False
  | _ => False
theorem zo_Iald {X : zM} {cc : ByteArray} {ws : List Cond} {own : String} {d MC MS : Nat} {pc : Nat} (C : zB X cc ws own d MC MS) (hd : decode cc pc = .ok (.iaload, 1)) : zOk X pc oIald (pc + 1) := by
  obtain ⟨⟨p, l, e, R⟩, ⟨s, m, args, below, meth, c⟩, ⟨D, dA, A, nL, Q⟩, ad0, N0⟩ := X
  obtain ⟨hx, hb, hml, hts, hown, hK, hlk, hA, hZ, hR, hfl⟩ := C
  intro K nx hJ hn ls st w k n h ad H locs la hag hN hP hD hS hl
  unfold oIald at h
  split at h
  · rename_i i a st
    split at h
    · rename_i len f hg
      exact va_iald hx hb hK hP a 0 (zw_at (zg_some hg)) rfl h.1 hd (hn _ _ _ _ _ h.2 ad H locs la hag hN hP hD hS hl)
    · exact h.elim
  · exact h.elim
def oLald  (_ : zK) (nx : zNx) (ls : zPL) (st : List Value) (w : zW) (k n : Nat) : Prop := match st with
  | .int i :: .ref a :: st => match zg w a with
    | some (.inl (1, (len, .inr (.inl f)))) => vp_in i len ∧ nx ls (.long (f i.toNatClampNeg) :: st) w k n
    | _ => False
  | _ => False
def oDald  (_ : zK) (nx : zNx) (ls : zPL) (st : List Value) (w : zW) (k n : Nat) : Prop := match st with
  | .int i :: .ref a :: st => match zg w a with
    | some (.inl (2, (len, .inr (.inr (.inr (.inl f)))))) => vp_in i len ∧ nx ls (.double (f i.toNatClampNeg) :: st) w k n
    | _ => False
  | _ => False
def oBald  (_ : zK) (nx : zNx) (ls : zPL) (st : List Value) (w : zW) (k n : Nat) : Prop := match st with
  | .int i :: .ref a :: st => match zg w a with
    | some (.inl (3, (len, .inl f))) => vp_in i len ∧ nx ls (.int (f i.toNatClampNeg) :: st) w k n
    | _ => False
  | _ => False
theorem zo_Bald {X : zM} {cc : ByteArray} {ws : List Cond} {own : String} {d MC MS : Nat} {pc : Nat} (C : zB X cc ws own d MC MS) (hd : decode cc pc = .ok (.baload, 1)) : zOk X pc oBald (pc + 1) := by
  obtain ⟨⟨p, l, e, R⟩, ⟨s, m, args, below, meth, c⟩, ⟨D, dA, A, nL, Q⟩, ad0, N0⟩ := X
  obtain ⟨hx, hb, hml, hts, hown, hK, hlk, hA, hZ, hR, hfl⟩ := C
  intro K nx hJ hn ls st w k n h ad H locs la hag hN hP hD hS hl
  unfold oBald at h
  split at h
  · rename_i i a st
    split at h
    · rename_i len f hg
      exact va_bald hx hb hK hP a 3 (zw_at (zg_some hg)) rfl h.1 hd (hn _ _ _ _ _ h.2 ad H locs la hag hN hP hD hS hl)
    · exact h.elim
  · exact h.elim
def oZald  (_ : zK) (nx : zNx) (ls : zPL) (st : List Value) (w : zW) (k n : Nat) : Prop := match st with
  | .int i :: .ref a :: st => match zg w a with
    | some (.inl (4, (len, .inl f))) => vp_in i len ∧ nx ls (.int (f i.toNatClampNeg) :: st) w k n
    | _ => False
  | _ => False
def oIast  (_ : zK) (nx : zNx) (ls : zPL) (st : List Value) (w : zW) (k n : Nat) : Prop := match st with
  | .int x :: .int i :: .ref a :: st => match zg w a with
    | some (.inl (0, (len, .inl f))) => vp_in i len ∧ nx ls st (w.set a (.inl (0, (len, .inl (upd f i.toNatClampNeg x))))) k n
    | _ => False
  | _ => False
theorem zo_Iast {X : zM} {cc : ByteArray} {ws : List Cond} {own : String} {d MC MS : Nat} {pc : Nat} (C : zB X cc ws own d MC MS) (hd : decode cc pc = .ok (.iastore, 1)) : zOk X pc oIast (pc + 1) := by
  obtain ⟨⟨p, l, e, R⟩, ⟨s, m, args, below, meth, c⟩, ⟨D, dA, A, nL, Q⟩, ad0, N0⟩ := X
  obtain ⟨hx, hb, hml, hts, hown, hK, hlk, hA, hZ, hR, hfl⟩ := C
  intro K nx hJ hn ls st w k n h ad H locs la hag hN hP hD hS hl
  unfold oIast at h
  split at h
  · rename_i x i a st
    split at h
    · rename_i len f hg
      refine va_iast hx hb hK hP hD hS a 0 (zw_at (zg_some hg)) rfl h.1 hd (fun H1 locs1 hP1 hD1 hS1 => ?_)
      have e9 : (.inl (dA 0, (len, .inl (upd f i.toNatClampNeg x))) : va_E) = ze dA ad (.inl (0, (len, .inl (upd f i.toNatClampNeg x)))) := rfl
      rw [zw_set' e9] at hP1 hD1
      exact hn _ _ _ _ _ h.2 ad H1 locs1 la (zag_set hag) (zlen_set hN) hP1 hD1 hS1 hl
    · exact h.elim
  · exact h.elim
def oLast  (_ : zK) (nx : zNx) (ls : zPL) (st : List Value) (w : zW) (k n : Nat) : Prop := match st with
  | .long x :: .int i :: .ref a :: st => match zg w a with
    | some (.inl (1, (len, .inr (.inl f)))) => vp_in i len ∧ nx ls st (w.set a (.inl (1, (len, .inr (.inl (vp_updL f i.toNatClampNeg x)))))) k n
    | _ => False
  | _ => False
def oDast  (_ : zK) (nx : zNx) (ls : zPL) (st : List Value) (w : zW) (k n : Nat) : Prop := match st with
  | .double x :: .int i :: .ref a :: st => match zg w a with
    | some (.inl (2, (len, .inr (.inr (.inr (.inl f)))))) => vp_in i len ∧ nx ls st (w.set a (.inl (2, (len, .inr (.inr (.inr (.inl (vf_upd f i.toNatClampNeg x)))))))) k n
    | _ => False
  | _ => False
def oBast  (_ : zK) (nx : zNx) (ls : zPL) (st : List Value) (w : zW) (k n : Nat) : Prop := match st with
  | .int x :: .int i :: .ref a :: st => match zg w a with
    | some (.inl (3, (len, .inl f))) => vp_in i len ∧ nx ls st (w.set a (.inl (3, (len, .inl (upd f i.toNatClampNeg (vp_nar .byte x)))))) k n
    | _ => False
  | _ => False
theorem zo_Bast {X : zM} {cc : ByteArray} {ws : List Cond} {own : String} {d MC MS : Nat} {pc : Nat} (C : zB X cc ws own d MC MS) (hd : decode cc pc = .ok (.bastore, 1)) : zOk X pc oBast (pc + 1) := by
  obtain ⟨⟨p, l, e, R⟩, ⟨s, m, args, below, meth, c⟩, ⟨D, dA, A, nL, Q⟩, ad0, N0⟩ := X
  obtain ⟨hx, hb, hml, hts, hown, hK, hlk, hA, hZ, hR, hfl⟩ := C
  intro K nx hJ hn ls st w k n h ad H locs la hag hN hP hD hS hl
  unfold oBast at h
  split at h
  · rename_i x i a st
    split at h
    · rename_i len f hg
      refine va_bast hx hb hK hP hD hS a 3 (zw_at (zg_some hg)) rfl h.1 hd (fun H1 locs1 hP1 hD1 hS1 => ?_)
      have e9 : (.inl (dA 3, (len, .inl (upd f i.toNatClampNeg (vp_nar .byte x)))) : va_E) = ze dA ad (.inl (3, (len, .inl (upd f i.toNatClampNeg (vp_nar .byte x))))) := rfl
      rw [zw_set' e9] at hP1 hD1
      exact hn _ _ _ _ _ h.2 ad H1 locs1 la (zag_set hag) (zlen_set hN) hP1 hD1 hS1 hl
    · exact h.elim
  · exact h.elim
def oZast  (_ : zK) (nx : zNx) (ls : zPL) (st : List Value) (w : zW) (k n : Nat) : Prop := match st with
  | .int x :: .int i :: .ref a :: st => match zg w a with
    | some (.inl (4, (len, .inl f))) => vp_in i len ∧ nx ls st (w.set a (.inl (4, (len, .inl (upd f i.toNatClampNeg (vp_nar .boolean x)))))) k n
    | _ => False
  | _ => False
def oAald  (_ : zK) (nx : zNx) (ls : zPL) (st : List Value) (w : zW) (k n : Nat) : Prop := match st with
  | .int i :: .ref a :: st => match zg w a with
    | some (.inl (5, (len, .inr (.inr (.inr (.inr f)))))) => vp_in i len ∧ nx ls (va_rf (f i.toNatClampNeg) :: st) w k n
    | _ => False
  | _ => False
theorem zo_Aald {X : zM} {cc : ByteArray} {ws : List Cond} {own : String} {d MC MS : Nat} {pc : Nat} (C : zB X cc ws own d MC MS) (hd : decode cc pc = .ok (.aaload, 1)) : zOk X pc oAald (pc + 1) := by
  obtain ⟨⟨p, l, e, R⟩, ⟨s, m, args, below, meth, c⟩, ⟨D, dA, A, nL, Q⟩, ad0, N0⟩ := X
  obtain ⟨hx, hb, hml, hts, hown, hK, hlk, hA, hZ, hR, hfl⟩ := C
  intro K nx hJ hn ls st w k n h ad H locs la hag hN hP hD hS hl
  unfold oAald at h
  split at h
  · rename_i i a st
    split at h
    · rename_i len f hg
      refine va_aldq hx hb hK hP a 5 (zw_at (zg_some hg)) rfl h.1 hd ?_
      rw [zrf_map]
      exact hn _ _ _ _ _ h.2 ad H locs la hag hN hP hD hS hl
    · exact h.elim
  · exact h.elim
def oAast  (_ : zK) (nx : zNx) (ls : zPL) (st : List Value) (w : zW) (k n : Nat) : Prop := match st with
  | .ref v :: .int i :: .ref a :: st => match zg w a, zg w v with
    | some (.inl (5, (len, .inr (.inr (.inr (.inr f)))))), some (.inr (c, _)) => (c = 5 ∧ vp_in i len) ∧ nx ls st (w.set a (.inl (5, (len, .inr (.inr (.inr (.inr (va_up f i.toNatClampNeg (some v))))))))) k n
    | _, _ => False
  | _ => False
theorem zo_Aast {X : zM} {cc : ByteArray} {ws : List Cond} {own : String} {d MC MS : Nat} {pc : Nat} (C : zB X cc ws own d MC MS) (hd : decode cc pc = .ok (.aastore, 1)) : zOk X pc oAast (pc + 1) := by
  obtain ⟨⟨p, l, e, R⟩, ⟨s, m, args, below, meth, c⟩, ⟨D, dA, A, nL, Q⟩, ad0, N0⟩ := X
  obtain ⟨hx, hb, hml, hts, hown, hK, hlk, hA, hZ, hR, hfl⟩ := C
  intro K nx hJ hn ls st w k n h ad H locs la hag hN hP hD hS hl
  unfold oAast at h
  split at h
  · rename_i v i a st
    split at h
    · rename_i len f c9 vs hg hv
      obtain ⟨⟨rfl, h1⟩, h⟩ := h
      refine va_astq hx hb hK hP hD hS a 5 v 5 (r := (RX5, TX5, 8)) (zw_at (zg_some hg)) rfl (zw_at (zg_some hv)) rfl h1 hd (fun H1 locs1 hP1 hD1 hS1 => ?_)
      have e9 : (.inl (dA 5, (len, .inr (.inr (.inr (.inr (va_up (fun j => (f j).map ad) i.toNatClampNeg (some (ad v)))))))) : va_E) = ze dA ad (.inl (5, (len, .inr (.inr (.inr (.inr (va_up f i.toNatClampNeg (some v)))))))) := by
        show _ = (.inl (dA 5, (len, .inr (.inr (.inr (.inr (fun j => (va_up f i.toNatClampNeg (some v) j).map ad)))))) : va_E)
        congr 7
        funext j
        unfold va_up
        by_cases hj : j = i.toNatClampNeg
        · rw [if_pos hj, if_pos hj]; rfl
        · rw [if_neg hj, if_neg hj]
      rw [zw_set' e9] at hP1 hD1
      exact hn _ _ _ _ _ h ad H1 locs1 la (zag_set hag) (zlen_set hN) hP1 hD1 hS1 hl
    · exact h.elim
  · exact h.elim
def zmax (x y : Int32) : Int32 := if x < y then y else x
def zmin (x y : Int32) : Int32 := if y < x then y else x
def o_mmax (MC MS : Nat) (_ : zK) (nx : zNx) (ls : zPL) (st : List Value) (w : zW) (k n : Nat) : Prop := match st with
  | .int y :: .int x :: st => (zShort st = true ∧ k ≤ MC ∧ n ≤ MS) ∧ nx ls (.int (zmax x y) :: st) w k n
  | _ => False
theorem zo_mmax {X : zM} {cc : ByteArray} {ws : List Cond} {own : String} {d MC MS : Nat} {pc : Nat} (C : zB X cc ws own d MC MS) {i : Nat} (hd : decode cc pc = .ok (.invokestatic i, 3)) (h1 : Cond.methodLink own i Lib.Math.max.name ∈ ws) (h2 : Cond.static Lib.Math.max.name ∈ ws) (h3 : Cond.initialized "java/lang/Math" ∈ ws) (h4 : Cond.code Lib.Math.max.name Lib.Math.max.code 2 (some .int) ∈ ws) (hd1 : 1 ≤ d) : zOk X pc (o_mmax MC MS) (pc + 3) := by
  obtain ⟨⟨p, l, e, R⟩, ⟨s, m, args, below, meth, c⟩, ⟨D, dA, A, nL, Q⟩, ad0, N0⟩ := X
  obtain ⟨hx, hb, hml, hts, hown, hK, hlk, hA, hZ, hR, hfl⟩ := C
  intro K nx hJ hn ls st w k n h ad H locs la hag hN hP hD hS hl
  unfold o_mmax at h
  split at h
  · rename_i y x st
    obtain ⟨⟨hs9, hk9, hn9⟩, h⟩ := h
    have hc9 := zShort_le hs9
    exact va_mmax hx hb (hml.trans hl.2.1.symm) hown (hts _ h1) (hts _ h2) (hts _ h3) (hts _ h4) (by omega) (by rw [zs_cat]; omega) (by omega) (by omega) hd (hn _ _ _ _ _ h ad H locs la hag hN hP hD hS hl)
  · exact h.elim
def o_mmin (MC MS : Nat) (_ : zK) (nx : zNx) (ls : zPL) (st : List Value) (w : zW) (k n : Nat) : Prop := match st with
  | .int y :: .int x :: st => (zShort st = true ∧ k ≤ MC ∧ n ≤ MS) ∧ nx ls (.int (zmin x y) :: st) w k n
  | _ => False
theorem zo_mmin {X : zM} {cc : ByteArray} {ws : List Cond} {own : String} {d MC MS : Nat} {pc : Nat} (C : zB X cc ws own d MC MS) {i : Nat} (hd : decode cc pc = .ok (.invokestatic i, 3)) (h1 : Cond.methodLink own i Lib.Math.min.name ∈ ws) (h2 : Cond.static Lib.Math.min.name ∈ ws) (h3 : Cond.initialized "java/lang/Math" ∈ ws) (h4 : Cond.code Lib.Math.min.name Lib.Math.min.code 2 (some .int) ∈ ws) (hd1 : 1 ≤ d) : zOk X pc (o_mmin MC MS) (pc + 3) := by
  obtain ⟨⟨p, l, e, R⟩, ⟨s, m, args, below, meth, c⟩, ⟨D, dA, A, nL, Q⟩, ad0, N0⟩ := X
  obtain ⟨hx, hb, hml, hts, hown, hK, hlk, hA, hZ, hR, hfl⟩ := C
  intro K nx hJ hn ls st w k n h ad H locs la hag hN hP hD hS hl
  unfold o_mmin at h
  split at h
  · rename_i y x st
    obtain ⟨⟨hs9, hk9, hn9⟩, h⟩ := h
    have hc9 := zShort_le hs9
    exact va_mmin hx hb (hml.trans hl.2.1.symm) hown (hts _ h1) (hts _ h2) (hts _ h3) (hts _ h4) (by omega) (by rw [zs_cat]; omega) (by omega) (by omega) hd (hn _ _ _ _ _ h ad H locs la hag hN hP hD hS hl)
  · exact h.elim
def oNew (ci N : Nat) (fs : List Value) (MC MS : Nat) (_ : zK) (nx : zNx) (ls : zPL) (st : List Value) (w : zW) (k n : Nat) : Prop := (zclW w.length w ∧ zclL w.length ls ∧ zclS w.length st ∧ k + 1 ≤ MC ∧ n + N ≤ MS) ∧ nx ls (.ref w.length :: st) (w ++ [.inr (ci, fs)]) (k + 1) (n + N)
theorem zo_new {X : zM} {cc : ByteArray} {ws : List Cond} {own : String} {d MC MS : Nat} {pc : Nat} (C : zB X cc ws own d MC MS) {i ci N : Nat} {T : u_T} {Cn : String} {fs : List Value} {tf : Nat → FieldType} (hd : decode cc pc = .ok (.new i, 3)) (hc : vwCl[ci]? = some (Cn, T, N)) (hin : ∀ w ∈ u_ws Cn T N, w ∈ ws) (hty : ∀ k, k < N → parseFieldDescriptor (T k).2.2.1 = some (tf k)) (h1 : Cond.classLink own i Cn ∈ ws) (h2 : Cond.instantiable Cn N ∈ ws) (h3 : Cond.initialized Cn ∈ ws) (hfs : ∀ j, j < N → defaultValue (tf j) = vp_V fs j) (hz : ∀ f : Nat → Nat, fs.map (zv f) = fs) : zOk X pc (oNew ci N fs MC MS) (pc + 3) := by
  obtain ⟨⟨p, l, e, R⟩, ⟨s, m, args, below, meth, c⟩, ⟨D, dA, A, nL, Q⟩, ad0, N0⟩ := X
  obtain ⟨hx, hb, hml, hts, hown, hK, hlk, hA, hZ, hR, hfl⟩ := C
  intro K nx hJ hn ls st w k n h ad H locs la hag hN hP hD hS hl
  unfold oNew at h
  obtain ⟨⟨c1, c2, c3, c4, c5⟩, h⟩ := h
  refine va_new hx hb hts hin tf hty hown (hts _ h1) (hts _ h2) (hts _ h3) hK hP hD hS hA hc hfs (by omega) (by omega) hd (fun q H1 hP1 hD1 hS1 => ?_)
  · have hag1 : zag N0 (w ++ [(.inr (ci, fs) : zE)]).length (zup ad w.length q) ad0 := by
      intro j hj
      rw [List.length_append] at hj
      have hj' : j < N0 ∨ w.length + 1 ≤ j := hj
      have : j ≠ w.length := by omega
      rw [show zup ad w.length q j = ad j by simp [zup, this]]
      exact hag j (by omega)
    have hl1 : zL (zup ad w.length q) la nL ls := zL_ag zup_lt hl c2
    have hw1 : zw dA (zup ad w.length q) (w ++ [(.inr (ci, fs) : zE)]) = zw dA ad w ++ [(q, .inr (ci, fs))] := by
      rw [zw_app, zw_ag zup_lt (Nat.le_refl _) c1, zup_at]
      show _ ++ [(q, (.inr (ci, fs.map (zv _)) : va_E))] = _
      rw [hz]
    rw [← hw1] at hP1 hD1
    have := hn _ _ _ _ _ h (zup ad w.length q) H1 locs la hag1 (by rw [List.length_append]; omega) hP1 hD1 hS1 hl1
    rw [List.map_cons, zs_ag zup_lt c3] at this
    rw [show zv (zup ad w.length q) (.ref w.length) = .ref q from congrArg Value.ref zup_at] at this
    exact this
def oNewaI (N MC MS : Nat) (_ : zK) (nx : zNx) (ls : zPL) (st : List Value) (w : zW) (k n : Nat) : Prop := match st with
  | .int i :: st => ((¬ i < 0 ∧ i.toNatClampNeg = N ∧ N ≤ 1000) ∧ zclW w.length w ∧ zclL w.length ls ∧ zclS w.length st ∧ k + 1 ≤ MC ∧ n + N ≤ MS) ∧ nx ls (.ref w.length :: st) (w ++ [.inl (0, (N, .inl (fun _ => 0)))]) (k + 1) (n + N)
  | _ => False
theorem zo_newaI {X : zM} {cc : ByteArray} {ws : List Cond} {own : String} {d MC MS : Nat} {pc : Nat} (C : zB X cc ws own d MC MS) {N : Nat} (hd : decode cc pc = .ok (.newarray .int, 2)) (h1 : Cond.arrayClass .int ∈ ws) : zOk X pc (oNewaI N MC MS) (pc + 2) := by
  obtain ⟨⟨p, l, e, R⟩, ⟨s, m, args, below, meth, c⟩, ⟨D, dA, A, nL, Q⟩, ad0, N0⟩ := X
  obtain ⟨hx, hb, hml, hts, hown, hK, hlk, hA, hZ, hR, hfl⟩ := C
  intro K nx hJ hn ls st w k n h ad H locs la hag hN hP hD hS hl
  unfold oNewaI at h
  split at h
  · rename_i i st
    obtain ⟨⟨⟨a1, a2, a3⟩, c1, c2, c3, c4, c5⟩, h⟩ := h
    refine va_newa (atype := .int) hx hb (hts _ h1) (ty := .int) rfl hK hP hD hS hA (a0 := (N, .inl (fun _ => 0))) (fun cA => rfl) a1 a2 (Nat.le_trans (Nat.mul_le_mul a3 (show componentBytes .int ≤ 8 by decide)) (by decide)) (by omega) (by omega) hd (fun q cA H1 hK1 hP1 hD1 hS1 => ?_)
    have hcA : cA = dA 0 := by
      have e1 : s.vm.findClass ("[" ++ (FieldType.int).toString) = some cA := (hK1.2 6 (cA, .int) rfl).2
      have e2 : s.vm.findClass ("[" ++ (FieldType.int).toString) = some (dA 0) := (hK.2 0 (dA 0, .int) rfl).2
      exact Option.some.inj (e1.symm.trans e2)
    subst hcA
    have hag1 : zag N0 (w ++ [(.inl (0, (N, .inl (fun _ => 0))) : zE)]).length (zup ad w.length q) ad0 := by
      intro j hj
      rw [List.length_append] at hj
      have hj' : j < N0 ∨ w.length + 1 ≤ j := hj
      have : j ≠ w.length := by omega
      rw [show zup ad w.length q j = ad j by simp [zup, this]]
      exact hag j (by omega)
    have hl1 : zL (zup ad w.length q) la nL ls := zL_ag zup_lt hl c2
    have hw1 : zw dA (zup ad w.length q) (w ++ [(.inl (0, (N, .inl (fun _ => 0))) : zE)]) = zw dA ad w ++ [(q, .inl (dA 0, (N, .inl (fun _ => 0))))] := by
      rw [zw_app, zw_ag zup_lt (Nat.le_refl _) c1, zup_at]
      rfl
    rw [← hw1] at hP1 hD1
    have := hn _ _ _ _ _ h (zup ad w.length q) H1 locs la hag1 (by rw [List.length_append]; omega) hP1 hD1 hS1 hl1
    rw [List.map_cons, zs_ag zup_lt c3] at this
    rw [show zv (zup ad w.length q) (.ref w.length) = .ref q from congrArg Value.ref zup_at] at this
    exact this
  · exact h.elim
def oNewaB (N MC MS : Nat) (_ : zK) (nx : zNx) (ls : zPL) (st : List Value) (w : zW) (k n : Nat) : Prop := match st with
  | .int i :: st => ((¬ i < 0 ∧ i.toNatClampNeg = N ∧ N ≤ 1000) ∧ zclW w.length w ∧ zclL w.length ls ∧ zclS w.length st ∧ k + 1 ≤ MC ∧ n + N ≤ MS) ∧ nx ls (.ref w.length :: st) (w ++ [.inl (3, (N, .inl (fun _ => 0)))]) (k + 1) (n + N)
  | _ => False
theorem zo_newaB {X : zM} {cc : ByteArray} {ws : List Cond} {own : String} {d MC MS : Nat} {pc : Nat} (C : zB X cc ws own d MC MS) {N : Nat} (hd : decode cc pc = .ok (.newarray .byte, 2)) (h1 : Cond.arrayClass .byte ∈ ws) : zOk X pc (oNewaB N MC MS) (pc + 2) := by
  obtain ⟨⟨p, l, e, R⟩, ⟨s, m, args, below, meth, c⟩, ⟨D, dA, A, nL, Q⟩, ad0, N0⟩ := X
  obtain ⟨hx, hb, hml, hts, hown, hK, hlk, hA, hZ, hR, hfl⟩ := C
  intro K nx hJ hn ls st w k n h ad H locs la hag hN hP hD hS hl
  unfold oNewaB at h
  split at h
  · rename_i i st
    obtain ⟨⟨⟨a1, a2, a3⟩, c1, c2, c3, c4, c5⟩, h⟩ := h
    refine va_newa (atype := .byte) hx hb (hts _ h1) (ty := .byte) rfl hK hP hD hS hA (a0 := (N, .inl (fun _ => 0))) (fun cA => rfl) a1 a2 (Nat.le_trans (Nat.mul_le_mul a3 (show componentBytes .byte ≤ 8 by decide)) (by decide)) (by omega) (by omega) hd (fun q cA H1 hK1 hP1 hD1 hS1 => ?_)
    have hcA : cA = dA 3 := by
      have e1 : s.vm.findClass ("[" ++ (FieldType.byte).toString) = some cA := (hK1.2 6 (cA, .byte) rfl).2
      have e2 : s.vm.findClass ("[" ++ (FieldType.byte).toString) = some (dA 3) := (hK.2 3 (dA 3, .byte) rfl).2
      exact Option.some.inj (e1.symm.trans e2)
    subst hcA
    have hag1 : zag N0 (w ++ [(.inl (3, (N, .inl (fun _ => 0))) : zE)]).length (zup ad w.length q) ad0 := by
      intro j hj
      rw [List.length_append] at hj
      have hj' : j < N0 ∨ w.length + 1 ≤ j := hj
      have : j ≠ w.length := by omega
      rw [show zup ad w.length q j = ad j by simp [zup, this]]
      exact hag j (by omega)
    have hl1 : zL (zup ad w.length q) la nL ls := zL_ag zup_lt hl c2
    have hw1 : zw dA (zup ad w.length q) (w ++ [(.inl (3, (N, .inl (fun _ => 0))) : zE)]) = zw dA ad w ++ [(q, .inl (dA 3, (N, .inl (fun _ => 0))))] := by
      rw [zw_app, zw_ag zup_lt (Nat.le_refl _) c1, zup_at]
      rfl
    rw [← hw1] at hP1 hD1
    have := hn _ _ _ _ _ h (zup ad w.length q) H1 locs la hag1 (by rw [List.length_append]; omega) hP1 hD1 hS1 hl1
    rw [List.map_cons, zs_ag zup_lt c3] at this
    rw [show zv (zup ad w.length q) (.ref w.length) = .ref q from congrArg Value.ref zup_at] at this
    exact this
  · exact h.elim
def oNewq (N MC MS : Nat) (_ : zK) (nx : zNx) (ls : zPL) (st : List Value) (w : zW) (k n : Nat) : Prop := match st with
  | .int i :: st => ((¬ i < 0 ∧ i.toNatClampNeg = N ∧ N ≤ 1000) ∧ zclW w.length w ∧ zclL w.length ls ∧ zclS w.length st ∧ k + 1 ≤ MC ∧ n + N ≤ MS) ∧ nx ls (.ref w.length :: st) (w ++ [.inl (5, (N, .inr (.inr (.inr (.inr (fun _ => none))))))]) (k + 1) (n + N)
  | _ => False
theorem zo_newq {X : zM} {cc : ByteArray} {ws : List Cond} {own : String} {d MC MS : Nat} {pc : Nat} (C : zB X cc ws own d MC MS) {i N : Nat} (hd : decode cc pc = .ok (.anewarray i, 3)) (h1 : Cond.classLink own i RX5 ∈ ws) : zOk X pc (oNewq N MC MS) (pc + 3) := by
  obtain ⟨⟨p, l, e, R⟩, ⟨s, m, args, below, meth, c⟩, ⟨D, dA, A, nL, Q⟩, ad0, N0⟩ := X
  obtain ⟨hx, hb, hml, hts, hown, hK, hlk, hA, hZ, hR, hfl⟩ := C
  intro K nx hJ hn ls st w k n h ad H locs la hag hN hP hD hS hl
  unfold oNewq at h
  split at h
  · rename_i i9 st
    obtain ⟨⟨⟨a1, a2, a3⟩, c1, c2, c3, c4, c5⟩, h⟩ := h
    refine va_newq hx hb hown (hts _ h1) hZ.2.2.2.2.2.1 hK hP hD hS hA a1 a2 (by omega) (by omega) (by omega) hd (fun q cA H1 hK1 hP1 hD1 hS1 => ?_)
    have hcA : cA = dA 5 := by
      obtain ⟨kA, comp, -, -, -, e1⟩ := (hK1.2 6 (cA, .object RX5) rfl).2
      obtain ⟨kA, comp, -, -, -, e2⟩ := (hK.2 5 (dA 5, .object "EdgeTasks$Plant") rfl).2
      exact Option.some.inj (e1.symm.trans e2)
    subst hcA
    have hag1 : zag N0 (w ++ [(.inl (5, (N, .inr (.inr (.inr (.inr (fun _ => none)))))) : zE)]).length (zup ad w.length q) ad0 := by
      intro j hj
      rw [List.length_append] at hj
      have hj' : j < N0 ∨ w.length + 1 ≤ j := hj
      have : j ≠ w.length := by omega
      rw [show zup ad w.length q j = ad j by simp [zup, this]]
      exact hag j (by omega)
    have hl1 : zL (zup ad w.length q) la nL ls := zL_ag zup_lt hl c2
    have hw1 : zw dA (zup ad w.length q) (w ++ [(.inl (5, (N, .inr (.inr (.inr (.inr (fun _ => none)))))) : zE)]) = zw dA ad w ++ [(q, .inl (dA 5, (N, .inr (.inr (.inr (.inr (fun _ => none)))))))] := by
      rw [zw_app, zw_ag zup_lt (Nat.le_refl _) c1, zup_at]
      rfl
    rw [← hw1] at hP1 hD1
    have := hn _ _ _ _ _ h (zup ad w.length q) H1 locs la hag1 (by rw [List.length_append]; omega) hP1 hD1 hS1 hl1
    rw [List.map_cons, zs_ag zup_lt c3] at this
    rw [show zv (zup ad w.length q) (.ref w.length) = .ref q from congrArg Value.ref zup_at] at this
    exact this
  · exact h.elim
def oObjInit  (_ : zK) (nx : zNx) (ls : zPL) (st : List Value) (w : zW) (k n : Nat) : Prop := match st with
  | .ref _ :: st => zShort st = true ∧ nx ls st w k n
  | _ => False
theorem zo_objInit {X : zM} {cc : ByteArray} {ws : List Cond} {own : String} {d MC MS : Nat} {pc : Nat} (C : zB X cc ws own d MC MS) {i : Nat} (hd : decode cc pc = .ok (.invokespecial i, 3)) (h1 : Cond.methodLink own i Lib.objectInit ∈ ws) (h2 : Cond.instanceMethod Lib.objectInit ∈ ws) (h3 : Cond.code Lib.objectInit ⟨#[0xb1]⟩ 1 none ∈ ws) (hd1 : 1 ≤ d) : zOk X pc oObjInit (pc + 3) := by
  obtain ⟨⟨p, l, e, R⟩, ⟨s, m, args, below, meth, c⟩, ⟨D, dA, A, nL, Q⟩, ad0, N0⟩ := X
  obtain ⟨hx, hb, hml, hts, hown, hK, hlk, hA, hZ, hR, hfl⟩ := C
  intro K nx hJ hn ls st w k n h ad H locs la hag hN hP hD hS hl
  unfold oObjInit at h
  split at h
  · rename_i a st
    have hc9 := zShort_le h.1
    have hr9 : JFrame.monitorRoom (F0 m pc la (.ref (ad a) :: st.map (zv ad))) = 0 := rfl
    exact W.objInit hx hb hown (hts _ h1) (hts _ h2) (hts _ h3) rfl (by rw [hml]; exact hl.2.1) rfl hd (by omega) (by rw [hr9, zs_cat]; omega) (hn _ _ _ _ _ h.2 ad H locs la hag hN hP hD hS hl)
  · exact h.elim
end ZZ3
