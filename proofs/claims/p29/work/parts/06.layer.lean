/-! A LAYER OF MY OWN OVER THE KIT'S ROWS: a pure world (cells by their places), instructions as steps of predicates, blocks, methods, calls with a frame. -/
section ZZ1
def zv (ad : Nat → Nat) : Value → Value
  | .ref k => .ref (ad k)
  | v => v
abbrev zE : Type := (Nat × vp_A) ⊕ (Nat × List Value)
abbrev zW : Type := List zE
def zA (ad : Nat → Nat) : vp_A → vp_A
  | (n, .inr (.inr (.inr (.inr f)))) => (n, .inr (.inr (.inr (.inr (fun j => (f j).map ad)))))
  | a => a
def ze (dA : Nat → ClassId) (ad : Nat → Nat) : zE → va_E
  | .inl (t, a) => .inl (dA t, zA ad a)
  | .inr (c, fs) => .inr (c, fs.map (zv ad))
def zw (dA : Nat → ClassId) (ad : Nat → Nat) (w : zW) : va_W := w.mapIdx (fun k e => (ad k, ze dA ad e))
theorem zw_get (dA : Nat → ClassId) (ad : Nat → Nat) (w : zW) (k : Nat) : (zw dA ad w)[k]? = (w[k]?).map (fun e => (ad k, ze dA ad e)) := by
  unfold zw
  rw [List.getElem?_mapIdx]
theorem zw_at {dA : Nat → ClassId} {ad : Nat → Nat} {w : zW} {k : Nat} {e : zE} (h : w[k]? = some e) : (zw dA ad w)[k]? = some (ad k, ze dA ad e) := by
  rw [zw_get, h]; rfl
theorem zw_of {dA : Nat → ClassId} {ad : Nat → Nat} {w : zW} {k : Nat} {q : Nat × va_E} (h : (zw dA ad w)[k]? = some q) : ∃ e, w[k]? = some e ∧ q = (ad k, ze dA ad e) := by
  rw [zw_get] at h
  cases hw : w[k]? with
  | none => rw [hw] at h; cases h
  | some e => rw [hw] at h; exact ⟨e, rfl, (Option.some.inj h).symm⟩
theorem zw_set (dA : Nat → ClassId) (ad : Nat → Nat) (w : zW) (k : Nat) (e : zE) : (zw dA ad w).set k (ad k, ze dA ad e) = zw dA ad (w.set k e) := by
  apply List.ext_getElem?
  intro i
  rw [zw_get, List.getElem?_set, List.getElem?_set]
  by_cases h : k = i
  · subst h
    rw [if_pos rfl, if_pos rfl]
    have : (zw dA ad w).length = w.length := by unfold zw; rw [List.length_mapIdx]
    rw [this]
    by_cases h2 : k < w.length
    · rw [if_pos h2, if_pos h2]; rfl
    · rw [if_neg h2, if_neg h2]; rfl
  · rw [if_neg h, if_neg h, zw_get]
theorem zw_app (dA : Nat → ClassId) (ad : Nat → Nat) (w : zW) (e : zE) : zw dA ad (w ++ [e]) = zw dA ad w ++ [(ad w.length, ze dA ad e)] := by
  unfold zw
  rw [List.mapIdx_append]
  simp
theorem zw_len (dA : Nat → ClassId) (ad : Nat → Nat) (w : zW) : (zw dA ad w).length = w.length := by unfold zw; rw [List.length_mapIdx]
theorem zv_cat (ad : Nat → Nat) (v : Value) : (zv ad v).category = v.category := by cases v <;> rfl
theorem zs_cat (ad : Nat → Nat) (st : List Value) : ((st.map (zv ad)).map fun v => v.category).sum = (st.map fun v => v.category).sum := by
  rw [List.map_map]
  congr 1
  apply List.map_congr_left
  intro v _
  exact zv_cat ad v
theorem cat_le (v : Value) : v.category ≤ 2 := by cases v <;> exact Nat.le_of_ble_eq_true rfl
theorem cat_sum (st : List Value) : (st.map fun v => v.category).sum ≤ 2 * st.length := by
  induction st with
  | nil => exact Nat.le_refl _
  | cons a t ih =>
    have := cat_le a
    simp only [List.map_cons, List.sum_cons, List.length_cons]
    omega
/-! all references are to places ahead of m -/
def zclV (m : Nat) : Value → Prop
  | .ref j => j < m
  | _ => True
def zclE (m : Nat) : zE → Prop
  | .inl (_, (_, .inr (.inr (.inr (.inr f))))) => ∀ j x, f j = some x → x < m
  | .inl _ => True
  | .inr (_, fs) => ∀ v ∈ fs, zclV m v
def zclW (m : Nat) (w : zW) : Prop := ∀ e ∈ w, zclE m e
abbrev zPL : Type := List (Option Value)
def zclL (m : Nat) (ls : zPL) : Prop := ∀ v, some v ∈ ls → zclV m v
def zclS (m : Nat) (st : List Value) : Prop := ∀ v ∈ st, zclV m v
theorem zv_ag {ad ad' : Nat → Nat} {m : Nat} (ha : ∀ j : Nat, j < m → ad' j = ad j) {v : Value} (h : zclV m v) : zv ad' v = zv ad v := by
  cases v with
  | ref k => exact congrArg Value.ref (ha k h)
  | _ => rfl
theorem ze_ag {dA : Nat → ClassId} {ad ad' : Nat → Nat} {m : Nat} (ha : ∀ j : Nat, j < m → ad' j = ad j) {e : zE} (h : zclE m e) : ze dA ad' e = ze dA ad e := by
  match e, h with
  | .inl (t, (n, .inr (.inr (.inr (.inr f))))), h =>
    simp only [ze, zA]
    have : (fun j => (f j).map ad') = (fun j => (f j).map ad) := by
      funext j
      cases hf : f j with
      | none => rfl
      | some k => exact congrArg some (ha k (h j k hf))
    rw [this]
  | .inl (t, (m, .inl f)), _ => rfl
  | .inl (t, (m, .inr (.inl f))), _ => rfl
  | .inl (t, (m, .inr (.inr (.inl f)))), _ => rfl
  | .inl (t, (m, .inr (.inr (.inr (.inl f))))), _ => rfl
  | .inr (c, fs), h =>
    simp only [ze]
    have : fs.map (zv ad') = fs.map (zv ad) := List.map_congr_left (fun v hv => zv_ag ha (h v hv))
    rw [this]
theorem zw_ag {dA : Nat → ClassId} {ad ad' : Nat → Nat} {m : Nat} {w : zW} (ha : ∀ j : Nat, j < m → ad' j = ad j) (hm : w.length ≤ m) (h : zclW m w) : zw dA ad' w = zw dA ad w := by
  apply List.ext_getElem?
  intro i
  rw [zw_get, zw_get]
  cases hw : w[i]? with
  | none => rfl
  | some e =>
    have hl : i < w.length := (List.getElem?_eq_some_iff.mp hw).1
    simp only [Option.map_some]
    rw [ze_ag ha (h e (List.mem_of_getElem? hw)), ha i (by omega)]
theorem zs_ag {ad ad' : Nat → Nat} {m : Nat} {st : List Value} (ha : ∀ j : Nat, j < m → ad' j = ad j) (h : zclS m st) : st.map (zv ad') = st.map (zv ad) := List.map_congr_left (fun v hv => zv_ag ha (h v hv))
def zup (ad : Nat → Nat) (n q : Nat) : Nat → Nat := fun k => if k = n then q else ad k
theorem zup_lt {ad : Nat → Nat} {n q : Nat} : ∀ j : Nat, j < n → zup ad n q j = ad j := fun j h => by simp [zup, Nat.ne_of_lt h]
theorem zup_at {ad : Nat → Nat} {n q : Nat} : zup ad n q n = q := by simp [zup]
/-! locals -/
def zAs (ad : Nat → Nat) : Nat → zPL → List (Nat × Value)
  | _, [] => []
  | i, none :: r => zAs ad (i + 1) r
  | i, some v :: r => (i, zv ad v) :: zAs ad (i + 1) r
theorem zAs_mem (ad : Nat → Nat) (q : Nat × Value) : ∀ (ls : zPL) (i : Nat), q ∈ zAs ad i ls ↔ ∃ (k : Nat) (v : Value), ls[k]? = some (some v) ∧ q = (i + k, zv ad v) := by
  intro ls
  induction ls with
  | nil => intro i; simp [zAs]
  | cons a t ih =>
    intro i
    cases a with
    | none =>
      rw [zAs, ih]
      constructor
      · rintro ⟨k, v, h1, h2⟩
        exact ⟨k + 1, v, by simpa using h1, by rw [h2]; congr 1; omega⟩
      · rintro ⟨k, v, h1, h2⟩
        cases k with
        | zero => simp at h1
        | succ k => exact ⟨k, v, by simpa using h1, by rw [h2]; congr 1; omega⟩
    | some u =>
      rw [zAs, List.mem_cons, ih]
      constructor
      · rintro (h | ⟨k, v, h1, h2⟩)
        · exact ⟨0, u, rfl, by rw [h]; rfl⟩
        · exact ⟨k + 1, v, by simpa using h1, by rw [h2]; congr 1; omega⟩
      · rintro ⟨k, v, h1, h2⟩
        cases k with
        | zero =>
          left
          simp at h1
          rw [h2, h1]; rfl
        | succ k => exact Or.inr ⟨k, v, by simpa using h1, by rw [h2]; congr 1; omega⟩
def zL (ad : Nat → Nat) (la : Array Slot) (nL : Nat) (ls : zPL) : Prop := ls.length = nL ∧ lv_has la nL (zAs ad 0 ls)
theorem zL_get {ad : Nat → Nat} {la : Array Slot} {nL : Nat} {ls : zPL} (h : zL ad la nL ls) {i : Nat} {v : Value} (hi : ls[i]? = some (some v)) : la[i]? = some (.val (zv ad v)) :=
  h.2.2.2 (i, zv ad v) ((zAs_mem ad _ ls 0).mpr ⟨i, v, hi, by rw [Nat.zero_add]⟩)
/-- fewer locals are known -/
def zsub : zPL → zPL → Prop
  | [], [] => True
  | none :: a, _ :: b => zsub a b
  | some x :: a, y :: b => y = some x ∧ zsub a b
  | _, _ => False
theorem zsub_get : ∀ (a b : zPL), zsub a b → a.length = b.length ∧ ∀ (i : Nat) (v : Value), a[i]? = some (some v) → b[i]? = some (some v) := by
  intro a
  induction a with
  | nil =>
    intro b h
    cases b with
    | nil => exact ⟨rfl, fun i v h => h⟩
    | cons y b => exact h.elim
  | cons x a ih =>
    intro b h
    cases b with
    | nil => cases x <;> exact h.elim
    | cons y b =>
      cases x with
      | none =>
        obtain ⟨h1, h2⟩ := ih b h
        refine ⟨by simp [h1], fun i v hi => ?_⟩
        cases i with
        | zero => simp at hi
        | succ i => simpa using h2 i v (by simpa using hi)
      | some u =>
        obtain ⟨h0, h⟩ := h
        obtain ⟨h1, h2⟩ := ih b h
        refine ⟨by simp [h1], fun i v hi => ?_⟩
        cases i with
        | zero => rw [h0]; simpa using hi
        | succ i => simpa using h2 i v (by simpa using hi)
theorem zsub_rfl : ∀ a : zPL, zsub a a := by
  intro a
  induction a with
  | nil => trivial
  | cons x a ih =>
    cases x with
    | none => exact ih
    | some u => exact ⟨rfl, ih⟩
theorem zL_sub {ad : Nat → Nat} {la : Array Slot} {nL : Nat} {ls ls' : zPL} (h : zL ad la nL ls) (hs : zsub ls' ls) : zL ad la nL ls' := by
  obtain ⟨h1, h2⟩ := zsub_get _ _ hs
  refine ⟨by rw [h1]; exact h.1, h.2.1, h.2.2.1, fun q hq => ?_⟩
  obtain ⟨k, v, e1, e2⟩ := (zAs_mem ad q ls' 0).mp hq
  exact h.2.2.2 q ((zAs_mem ad q ls 0).mpr ⟨k, v, h2 k v e1, e2⟩)
theorem zL_ag {ad ad' : Nat → Nat} {m : Nat} {la : Array Slot} {nL : Nat} {ls : zPL} (ha : ∀ j : Nat, j < m → ad' j = ad j) (h : zL ad la nL ls) (hs : zclL m ls) : zL ad' la nL ls := by
  refine ⟨h.1, h.2.1, h.2.2.1, fun r hr => ?_⟩
  obtain ⟨k, v, e1, e2⟩ := (zAs_mem _ r ls 0).mp hr
  refine h.2.2.2 r ((zAs_mem ad r ls 0).mpr ⟨k, v, e1, ?_⟩)
  rw [e2, zv_ag ha (hs _ (List.mem_of_getElem? e1))]
/-- the place ahead holds no long or double -/
def zok1 (ls : zPL) : Nat → Prop
  | 0 => True
  | j + 1 => match ls[j]? with
    | some (some (.long _)) => False
    | some (some (.double _)) => False
    | _ => True
theorem zok1_cat {ls : zPL} {i k : Nat} {v : Value} (h : zok1 ls i) (hk : ls[k]? = some (some v)) (hi : k + 1 = i) : v.category = 1 := by
  subst hi
  cases v <;> first | rfl | (exfalso; simp [zok1, hk] at h)
theorem zL_set1 {ad : Nat → Nat} {la la' : Array Slot} {nL i : Nat} {ls : zPL} {v : Value} (h : zL ad la nL ls) (ho : zok1 ls i) (hi : i < ls.length)
    (h' : lv_has la' nL ((i, zv ad v) :: (zAs ad 0 ls).filter (fun q => !(q.1 == i) && !(q.1 + 1 == i && q.2.category == 2)))) : zL ad la' nL (ls.set i (some v)) := by
  refine ⟨by rw [List.length_set]; exact h.1, h'.1, h'.2.1, fun q hq => ?_⟩
  obtain ⟨k, u, e1, e2⟩ := (zAs_mem ad q _ 0).mp hq
  rw [Nat.zero_add] at e2
  rw [List.getElem?_set] at e1
  by_cases hk : i = k
  · subst hk
    rw [if_pos rfl, if_pos hi] at e1
    have hu : v = u := Option.some.inj (Option.some.inj e1)
    rw [e2, ← hu]
    exact h'.2.2 _ List.mem_cons_self
  · rw [if_neg hk] at e1
    refine h'.2.2 q (List.mem_cons_of_mem _ (List.mem_filter.mpr ⟨(zAs_mem ad q ls 0).mpr ⟨k, u, e1, by rw [e2, Nat.zero_add]⟩, ?_⟩))
    rw [e2]
    simp only [Bool.and_eq_true, Bool.not_eq_true', beq_eq_false_iff_ne, ne_eq, Bool.and_eq_false_iff]
    refine ⟨fun e => hk e.symm, ?_⟩
    by_cases h3 : k + 1 = i
    · right
      have := zok1_cat ho e1 h3
      rw [zv_cat, this]; decide
    · left; exact h3
theorem zL_set2 {ad : Nat → Nat} {la la' : Array Slot} {nL i : Nat} {ls : zPL} {v : Value} (h : zL ad la nL ls) (ho : zok1 ls i) (hi : i + 1 < ls.length)
    (h' : lv_has la' nL ((i, zv ad v) :: (zAs ad 0 ls).filter (fun q => !(q.1 == i) && (!(q.1 == i + 1) && !(q.1 + 1 == i && q.2.category == 2))))) : zL ad la' nL ((ls.set i (some v)).set (i + 1) none) := by
  refine ⟨by rw [List.length_set, List.length_set]; exact h.1, h'.1, h'.2.1, fun q hq => ?_⟩
  obtain ⟨k, u, e1, e2⟩ := (zAs_mem ad q _ 0).mp hq
  rw [Nat.zero_add] at e2
  rw [List.getElem?_set] at e1
  by_cases hk1 : i + 1 = k
  · subst hk1
    rw [if_pos rfl, if_pos (by rw [List.length_set]; exact hi)] at e1
    cases e1
  rw [if_neg hk1, List.getElem?_set] at e1
  by_cases hk : i = k
  · subst hk
    rw [if_pos rfl, if_pos (by omega)] at e1
    have hu : v = u := Option.some.inj (Option.some.inj e1)
    rw [e2, ← hu]
    exact h'.2.2 _ List.mem_cons_self
  · rw [if_neg hk] at e1
    refine h'.2.2 q (List.mem_cons_of_mem _ (List.mem_filter.mpr ⟨(zAs_mem ad q ls 0).mpr ⟨k, u, e1, by rw [e2, Nat.zero_add]⟩, ?_⟩))
    rw [e2]
    simp only [Bool.and_eq_true, Bool.not_eq_true', beq_eq_false_iff_ne, ne_eq, Bool.and_eq_false_iff]
    refine ⟨fun e => hk e.symm, fun e => hk1 e.symm, ?_⟩
    by_cases h3 : k + 1 = i
    · right
      have := zok1_cat ho e1 h3
      rw [zv_cat, this]; decide
    · left; exact h3
end ZZ1
