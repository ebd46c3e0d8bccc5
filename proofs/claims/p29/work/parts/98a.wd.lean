-- pics: zFa
/-! p29, THE FACE as the law sees it: what calls answer over tasks, plans and reasoning -/
section WD1
theorem pB_congr {q q' : Nat → Bool} : ∀ {k : Nat}, (∀ t, t < k → q t = q' t) → cB q k = cB q' k
  | 0, _ => rfl
  | k + 1, h => by rw [cB, cB, h k (by omega), pB_congr (fun t ht => h t (by omega))]
theorem pOpen_eq {S : TS} {F L F' L' : Nat → Int} {B B' : Nat → Nat} (h : RLeast S F L B) (h' : RLeast S F' L' B') : nOpen S B = nOpen S B' := by
  have hb : ∀ a b, a < tn S → b < tn S → (B a).testBit b = (B' a).testBit b := fun a b ha hb => by
    have := (RLeast_le h h' a ha).2.2 b hb
    unfold bt at this
    cases e1 : (B a).testBit b <;> cases e2 : (B' a).testBit b
    · rfl
    · rw [e1, e2] at this; exact absurd (this.mpr rfl) (by decide)
    · rw [e1, e2] at this; exact absurd (this.mp rfl) (by decide)
    · rfl
  exact sN_congr (fun a ha => pB_congr (fun b hb2 => by
    unfold opn
    rw [hb a b ha (by omega), hb b a (by omega) ha]))
theorem pSv_push {L : List (Nat × TS)} (h : SvOk L) {S : TS} {mc : Nat} (hf : Fine S mc) : SvOk (svP L (mc, S)) := by
  obtain ⟨h1, h2⟩ := h
  have hsub : ∀ x, x ∈ (if L.length = 4 then L.tail else L) → x ∈ L := fun x hx => by
    split at hx
    · exact List.mem_of_mem_tail hx
    · exact hx
  refine ⟨?_, fun x hx => ?_⟩
  · unfold svP
    rw [List.length_append]
    split
    · show L.tail.length + 1 ≤ 4
      rw [List.length_tail]
      omega
    · show L.length + 1 ≤ 4
      omega
  · unfold svP at hx
    rcases List.mem_append.mp hx with hx | hx
    · exact h2 x (hsub x hx)
    · have : x = (mc, S) := by simpa using hx
      rw [this]; exact hf
theorem pRL_ex {S : TS} (hg : RGood S) : ∃ F H B, RLeast S F H B := by
  obtain ⟨F0, L0, B0, c0, b0⟩ := hg
  have hF : ∀ t, ∃ X : (Nat → Int) × (Nat → Int) × (Nat → Nat), Cl S X.1 X.2.1 X.2.2 ∧ (t < tn S → ∀ Y : (Nat → Int) × (Nat → Int) × (Nat → Nat), Cl S Y.1 Y.2.1 Y.2.2 → X.1 t ≤ Y.1 t) := fun t => by
    obtain ⟨X, h1, h2⟩ := min_of9 (p := fun X : (Nat → Int) × (Nat → Int) × (Nat → Nat) => Cl S X.1 X.2.1 X.2.2) (fun X => (X.1 t).toNat) ((F0 t).toNat) (F0, L0, B0) c0 (Nat.le_refl _)
    refine ⟨X, h1, fun ht Y hY => ?_⟩
    have e1 := (h1.1 t ht).1
    have e2 := (hY.1 t ht).1
    have e3 : (X.1 t).toNat ≤ (Y.1 t).toNat := h2 Y hY
    omega
  have hL : ∀ t, ∃ X : (Nat → Int) × (Nat → Int) × (Nat → Nat), Cl S X.1 X.2.1 X.2.2 ∧ (t < tn S → ∀ Y : (Nat → Int) × (Nat → Int) × (Nat → Nat), Cl S Y.1 Y.2.1 Y.2.2 → Y.2.1 t ≤ X.2.1 t) := fun t => by
    obtain ⟨X, h1, h2⟩ := min_of9 (p := fun X : (Nat → Int) × (Nat → Int) × (Nat → Nat) => Cl S X.1 X.2.1 X.2.2) (fun X => ((tD S t : Int) - X.2.1 t).toNat) (((tD S t : Int) - L0 t).toNat) (F0, L0, B0) c0 (Nat.le_refl _)
    refine ⟨X, h1, fun ht Y hY => ?_⟩
    have e1 := (h1.1 t ht).2.1
    have e2 := (hY.1 t ht).2.1
    have e3 : ((tD S t : Int) - X.2.1 t).toNat ≤ ((tD S t : Int) - Y.2.1 t).toNat := h2 Y hY
    omega
  obtain ⟨xF, hxF⟩ := Classical.axiomOfChoice hF
  obtain ⟨xL, hxL⟩ := Classical.axiomOfChoice hL
  have hB : ∃ B : Nat → Nat, ∀ a b, bt B a b ↔ b < tn S ∧ ∀ F' L' B', Cl S F' L' B' → bt B' a b := by
    refine ⟨fun a => maskF (fun b => @decide (∀ F' L' B', Cl S F' L' B' → bt B' a b) (Classical.propDecidable _)) (tn S), fun a b => ?_⟩
    show (maskF _ (tn S)).testBit b = true ↔ _
    rw [maskF_bit, Bool.and_eq_true, decide_eq_true_iff]
    exact ⟨fun ⟨h1, h2⟩ => ⟨h1, @of_decide_eq_true _ (Classical.propDecidable _) h2⟩, fun ⟨h1, h2⟩ => ⟨h1, @decide_eq_true _ (Classical.propDecidable _) h2⟩⟩
  obtain ⟨B, hB⟩ := hB
  have hle : ∀ F' L' B', Cl S F' L' B' → Le S (fun t => (xF t).1 t) (fun t => (xL t).2.1 t) B F' L' B' := fun F' L' B' hc t ht => ⟨(hxF t).2 ht (F', L', B') hc, (hxL t).2 ht (F', L', B') hc, fun b hb hbt => ((hB t b).mp hbt).2 F' L' B' hc⟩
  refine ⟨fun t => (xF t).1 t, fun t => (xL t).2.1 t, B, ⟨?_, ?_, ?_, ?_, ?_, ?_, ?_⟩, fun hb => b0 (Bad_mono (hle _ _ _ c0) hb), hle⟩
  · intro t ht
    exact ⟨((hxF t).1.1 t ht).1, ((hxL t).1.1 t ht).2.1, fun b hb hg => (hB t b).mpr ⟨hb, fun F' L' B' hc => (hc.1 t ht).2.2 b hb hg⟩⟩
  · intro a b c ha hb hc hab hbc
    exact (hB a c).mpr ⟨hc, fun F' L' B' h => h.2.1 a b c ha hb hc (((hB a b).mp hab).2 F' L' B' h) (((hB b c).mp hbc).2 F' L' B' h)⟩
  · intro a b ha hb hne hM hgt
    refine (hB b a).mpr ⟨ha, fun F' L' B' h => h.2.2.1 a b ha hb hne hM ?_⟩
    have e1 := (hle F' L' B' h a ha).1
    have e2 := (hle F' L' B' h b hb).2.1
    (try dsimp only at *)
    omega
  · intro i T hi hiT hT0 hone hgt j hj
    refine (hB j i).mpr ⟨hi, fun F' L' B' h => h.2.2.2.1 i T hi hiT hT0 hone (fun x y hx hy => ?_) j hj⟩
    have e1 := (hle F' L' B' h x (bit_lt hone.2.1 hx)).1
    have e2 := (hle F' L' B' h y (bit_lt hone.2.1 (ins_bit.mpr (Or.inl hy)))).2.1
    have e3 := hgt x y hx hy
    (try dsimp only at *)
    omega
  · intro i T hi hiT hT0 hone hgt j hj
    have hjl := bit_lt hone.2.1 (ins_bit.mpr (Or.inl hj))
    refine (hB i j).mpr ⟨hjl, fun F' L' B' h => h.2.2.2.2.1 i T hi hiT hT0 hone (fun x y hx hy => ?_) j hj⟩
    have e1 := (hle F' L' B' h x (bit_lt hone.2.1 (ins_bit.mpr (Or.inl hx)))).1
    have e2 := (hle F' L' B' h y (bit_lt hone.2.1 hy)).2.1
    have e3 := hgt x y hx hy
    (try dsimp only at *)
    omega
  · intro i T hi hone hT
    obtain ⟨x, h1, h2⟩ := (hxF i).1.2.2.2.2.2.1 i T hi hone (fun j hj => ((hB j i).mp (hT j hj)).2 _ _ _ (hxF i).1)
    have e1 := (hle _ _ _ (hxF i).1 x (bit_lt hone.2.1 h1)).1
    exact ⟨x, h1, by (try dsimp only at *); omega⟩
  · intro i T hi hone hT
    obtain ⟨x, h1, h2⟩ := (hxL i).1.2.2.2.2.2.2 i T hi hone (fun j hj => ((hB i j).mp (hT j hj)).2 _ _ _ (hxL i).1)
    have e1 := (hle _ _ _ (hxL i).1 x (bit_lt hone.2.1 h1)).2.1
    exact ⟨x, h1, by (try dsimp only at *); omega⟩
/-- a world in which the object stands with these tasks -/
def Wd (S : TS) (mc : Nat) (L : List (Nat × TS)) (w : zW) : Prop := IsFa S mc L 0 (fun _ => 0) w ∧ Fine S mc ∧ SvOk L
theorem Wd.len {S : TS} {mc : Nat} {L : List (Nat × TS)} {w : zW} (h : Wd S mc L w) : w.length = 76 := by
  obtain ⟨rd, pd, fm, fr, fd, fp, fa, fb, con, fF, fL, fB, fMe, sF, sL, sW, ms, lim, pl, sa, ro, ah, ea, fe, ff, dx, ge, gf, omc, onn, om, orr, od, op, oa, ob, ocon, oF, oL, oB, oMe, osF, osL, osW, hf, hg, kd, tm, tr, td, tp, ta, tb, atp, ft, fy, rfl, -⟩ := h.1
  rfl
theorem Wd.rcv {S : TS} {mc : Nat} {L : List (Nat × TS)} {w : zW} (h : Wd S mc L w) (as : List Value) : zRecv w 7 (.ref 0 :: as) := by
  obtain ⟨rd, pd, fm, fr, fd, fp, fa, fb, con, fF, fL, fB, fMe, sF, sL, sW, ms, lim, pl, sa, ro, ah, ea, fe, ff, dx, ge, gf, omc, onn, om, orr, od, op, oa, ob, ocon, oF, oL, oB, oMe, osF, osL, osW, hf, hg, kd, tm, tr, td, tp, ta, tb, atp, ft, fy, rfl, -⟩ := h.1
  exact rfl
theorem pIs {S : TS} (hn : tn S ≤ 8) {t : Nat} (ht : t < tn S) : tIs S (nI t) = true := by
  unfold tIs
  rw [decide_eq_true_iff]
  exact ⟨nI_pos' (by omega), nI_lt ht (by omega)⟩
variable {l : Launch} {S : TS} {mc : Nat} {L : List (Nat × TS)} {w : zW}
theorem g_task (hfl : l.stackTraces = false) (h : Wd S mc L w) {t : Nat} (ht : t < tn S) {x : Int32} (q : Nat) (hx : x = nI q) (hq : q < 6) : Can l yX7_task wsX7_task 14 4 24 [.ref 0, .int (nI t), .int x] w (fun o w' => Wd S mc L w' ∧ o = .inl (some (.int (nI (aspN S t q))))) := by
  have hn := h.2.1.1.1
  refine Can.mono (f_task hfl h.2.1.1 h.1 (nI t) x) ?_
  rintro o w' ⟨h1, h2⟩
  have e1 := pIs hn ht
  refine ⟨⟨h1, h.2⟩, ?_⟩
  rcases h2 with ⟨h3, -⟩ | ⟨-, h3, -⟩ | ⟨-, q', h3, h4, h5⟩
  · rw [e1] at h3; cases h3
  · exfalso
    apply h3
    rw [hx]
    rcases (show q = 0 ∨ q = 1 ∨ q = 2 ∨ q = 3 ∨ q = 4 ∨ q = 5 by omega) with rfl | rfl | rfl | rfl | rfl | rfl <;> decide
  · have e2 : q' = q := (nI_eq (by omega) (by omega)).mp (by rw [← h3, hx])
    rw [h5, e2, cl (by omega)]
theorem g_val (hfl : l.stackTraces = false) (h : Wd S mc L w) {x : Int32} (hx : 0 ≤ x ∧ x ≤ 5) : Can l yX7_value wsX7_value 14 4 24 [.ref 0, .int x] w (fun o w' => Wd S mc L w' ∧ ∃ v, o = .inl (some (.int v)) ∧ NumR S mc x.toInt v) := by
  refine Can.mono (f_value hfl h.2.1.1 h.1 x) ?_
  rintro o w' ⟨h1, ⟨h2, -⟩ | ⟨-, v, h2, h3⟩⟩
  · exact absurd hx h2
  · exact ⟨⟨h1, h.2⟩, v, h3, h2⟩
theorem g_val0 (hfl : l.stackTraces = false) (h : Wd S mc L w) : Can l yX7_value wsX7_value 14 4 24 [.ref 0, .int 0] w (fun o w' => Wd S mc L w' ∧ o = .inl (some (.int (nI mc)))) := by
  refine Can.mono (g_val hfl h (by decide)) ?_
  rintro o w' ⟨h1, v, rfl, h2⟩
  exact ⟨h1, by rw [h2.1 (by decide)]⟩
theorem g_val1 (hfl : l.stackTraces = false) (h : Wd S mc L w) : Can l yX7_value wsX7_value 14 4 24 [.ref 0, .int 1] w (fun o w' => Wd S mc L w' ∧ o = .inl (some (.int (nI (tn S))))) := by
  refine Can.mono (g_val hfl h (by decide)) ?_
  rintro o w' ⟨h1, v, rfl, h2⟩
  exact ⟨h1, by rw [h2.2.1 (by decide)]⟩
theorem g_val2 (hfl : l.stackTraces = false) (h : Wd S mc L w) : Can l yX7_value wsX7_value 14 4 24 [.ref 0, .int 2] w (fun o w' => Wd S mc L w' ∧ o = .inl (some (.int (nI (gMany S))))) := by
  refine Can.mono (g_val hfl h (by decide)) ?_
  rintro o w' ⟨h1, v, rfl, h2⟩
  exact ⟨h1, by rw [h2.2.2.1 (by decide)]⟩
theorem g_val3 (hfl : l.stackTraces = false) (h : Wd S mc L w) : Can l yX7_value wsX7_value 14 4 24 [.ref 0, .int 3] w (fun o w' => Wd S mc L w' ∧ o = .inl (some (.int (nI (nPairs S))))) := by
  refine Can.mono (g_val hfl h (by decide)) ?_
  rintro o w' ⟨h1, v, rfl, h2⟩
  exact ⟨h1, by rw [h2.2.2.2.1 (by decide)]⟩
theorem g_val4 (hfl : l.stackTraces = false) (h : Wd S mc L w) : Can l yX7_value wsX7_value 14 4 24 [.ref 0, .int 4] w (fun o w' => Wd S mc L w' ∧ ((RGood S ∧ o = .inl (some (.int 0))) ∨ (¬ RGood S ∧ o = .inl (some (.int 1))))) := by
  refine Can.mono (g_val hfl h (by decide)) ?_
  rintro o w' ⟨h1, v, rfl, h2⟩
  refine ⟨h1, ?_⟩
  rcases h2.2.2.2.2.1 (by decide) with ⟨h3, rfl⟩ | ⟨h3, rfl⟩
  · exact Or.inl ⟨h3, rfl⟩
  · exact Or.inr ⟨h3, rfl⟩
theorem g_val5 (hfl : l.stackTraces = false) (h : Wd S mc L w) : Can l yX7_value wsX7_value 14 4 24 [.ref 0, .int 5] w (fun o w' => Wd S mc L w' ∧ ((∃ F H B, RLeast S F H B ∧ o = .inl (some (.int (nI (nOpen S B))))) ∨ (¬ RGood S ∧ o = .inl (some (.int (-1)))))) := by
  refine Can.mono (g_val hfl h (by decide)) ?_
  rintro o w' ⟨h1, v, rfl, h2⟩
  refine ⟨h1, ?_⟩
  rcases h2.2.2.2.2.2 (Or.inr (by decide)) with ⟨F, H, B, h3, rfl⟩ | ⟨h3, rfl⟩
  · exact Or.inl ⟨F, H, B, h3, rfl⟩
  · exact Or.inr ⟨h3, rfl⟩
theorem g_val5r (hfl : l.stackTraces = false) (h : Wd S mc L w) {F H : Nat → Int} {B : Nat → Nat} (hR : RLeast S F H B) : Can l yX7_value wsX7_value 14 4 24 [.ref 0, .int 5] w (fun o w' => Wd S mc L w' ∧ o = .inl (some (.int (nI (nOpen S B))))) := by
  refine Can.mono (g_val5 hfl h) ?_
  rintro o w' ⟨h1, ⟨F', H', B', h2, rfl⟩ | ⟨h2, -⟩⟩
  · exact ⟨h1, by rw [pOpen_eq h2 hR]⟩
  · exact absurd (RLeast_good hR) h2
theorem g_makespan (hfl : l.stackTraces = false) (h : Wd S mc L w) : Can l yX7_makespan wsX7_makespan 14 4 24 [.ref 0] w (fun o w' => Wd S mc L w' ∧ ∃ v β, BestOf S (fun _ => True) v β ∧ o = .inl (some (.int (iI v)))) := by
  refine Can.mono (f_makespan hfl h.2.1.1 h.1) ?_
  rintro o w' ⟨h1, h2⟩
  exact ⟨⟨h1, h.2⟩, h2⟩
theorem g_makespanB (hfl : l.stackTraces = false) (h : Wd S mc L w) {v : Int} {β : Nat → Nat} (hB : BestOf S (fun _ => True) v β) : Can l yX7_makespan wsX7_makespan 14 4 24 [.ref 0] w (fun o w' => Wd S mc L w' ∧ o = .inl (some (.int (iI v)))) := by
  refine Can.mono (g_makespan hfl h) ?_
  rintro o w' ⟨h1, v', β', h2, rfl⟩
  exact ⟨h1, by rw [(h2.uniq hB).1]⟩
theorem g_inBest0 (hfl : l.stackTraces = false) (h : Wd S mc L w) {v : Nat} {β s q : Nat → Nat} (hB : BP S v β s q) {t : Nat} (ht : t < tn S) : Can l yX7_inBest wsX7_inBest 14 4 24 [.ref 0, .int (nI t), .int 0] w (fun o w' => Wd S mc L w' ∧ o = .inl (some (.int (nI (q t))))) := by
  have hn := h.2.1.1.1
  refine Can.mono (f_inBest hfl h.2.1.1 h.1 (nI t) 0) ?_
  rintro o w' ⟨h1, h2⟩
  have e1 := pIs hn ht
  refine ⟨⟨h1, h.2⟩, ?_⟩
  rcases h2 with ⟨h3, -⟩ | ⟨-, h3, -⟩ | ⟨-, -, vb, β', z, h3, rfl, h4⟩
  · rw [e1] at h3; cases h3
  · exact absurd (by decide) h3
  · obtain ⟨e2, e3⟩ := h3.uniq hB.1
    rcases h4 with ⟨h5, -⟩ | ⟨h5, j, h6, h7, ⟨-, rfl⟩ | ⟨h8, -⟩⟩
    · omega
    · rw [cl (by omega), e3 h5 j h6] at h7
      have := (hB.2.1 j h6).2
      rw [h7] at this
      rw [this]
    · exact absurd rfl h8
theorem g_inBest1 (hfl : l.stackTraces = false) (h : Wd S mc L w) {v : Nat} {β s q : Nat → Nat} (hB : BP S v β s q) {t : Nat} (ht : t < tn S) : Can l yX7_inBest wsX7_inBest 14 4 24 [.ref 0, .int (nI t), .int 1] w (fun o w' => Wd S mc L w' ∧ o = .inl (some (.int (nI (s t))))) := by
  have hn := h.2.1.1.1
  refine Can.mono (f_inBest hfl h.2.1.1 h.1 (nI t) 1) ?_
  rintro o w' ⟨h1, h2⟩
  have e1 := pIs hn ht
  refine ⟨⟨h1, h.2⟩, ?_⟩
  rcases h2 with ⟨h3, -⟩ | ⟨-, h3, -⟩ | ⟨-, -, vb, β', z, h3, rfl, h4⟩
  · rw [e1] at h3; cases h3
  · exact absurd (by decide) h3
  · obtain ⟨e2, e3⟩ := h3.uniq hB.1
    rcases h4 with ⟨h5, -⟩ | ⟨h5, j, h6, h7, ⟨h8, -⟩ | ⟨-, rfl⟩⟩
    · omega
    · exact absurd h8 (by decide)
    · rw [cl (by omega)]
      have e4 : stA S β' (tn S) = stA S β (tn S) := stA_congr (fun i hi => e3 h5 i hi)
      rw [e4, ← (hB.2.2.2.2.1 t ht).1]
theorem g_inBestN (hfl : l.stackTraces = false) (h : Wd S mc L w) {β : Nat → Nat} (hB : BestOf S (fun _ => True) (-1) β) {t : Nat} (ht : t < tn S) {x : Int32} (hx : 0 ≤ x ∧ x ≤ 1) : Can l yX7_inBest wsX7_inBest 14 4 24 [.ref 0, .int (nI t), .int x] w (fun o w' => Wd S mc L w' ∧ o = .inl (some (.int (-1)))) := by
  have hn := h.2.1.1.1
  refine Can.mono (f_inBest hfl h.2.1.1 h.1 (nI t) x) ?_
  rintro o w' ⟨h1, h2⟩
  have e1 := pIs hn ht
  refine ⟨⟨h1, h.2⟩, ?_⟩
  rcases h2 with ⟨h3, -⟩ | ⟨-, h3, -⟩ | ⟨-, -, vb, β', z, h3, rfl, h4⟩
  · rw [e1] at h3; cases h3
  · exact absurd hx h3
  · have e2 := (h3.uniq hB).1
    rcases h4 with ⟨-, rfl⟩ | ⟨h5, -⟩
    · rfl
    · exact absurd e2 h5
theorem CAns.ok {okb : Bool} {g : (Nat → Int) → (Nat → Int) → (Nat → Nat) → Int32 → Prop} {o : zO} (h : CAns S okb g o) (hb : okb = true) {F H : Nat → Int} {B : Nat → Nat} (hR : RLeast S F H B) : ∃ F' H' B' v, RLeast S F' H' B' ∧ (∀ t, t < tn S → F t = F' t ∧ H t = H' t ∧ ∀ b, b < tn S → (B t).testBit b = (B' t).testBit b) ∧ g F' H' B' v ∧ o = .inl (some (.int v)) := by
  rcases h with ⟨h1, -⟩ | ⟨-, h1, -⟩ | ⟨-, F', H', B', v, h1, -, h2, h3⟩
  · rw [hb] at h1; cases h1
  · exact absurd (RLeast_good hR) h1
  · refine ⟨F', H', B', v, h1, fun t ht => ?_, h2, h3⟩
    obtain ⟨e1, e2, e3⟩ := RLeast_le hR h1 t ht
    refine ⟨e1, e2, fun b hb => ?_⟩
    have := e3 b hb
    unfold bt at this
    cases f1 : (B t).testBit b <;> cases f2 : (B' t).testBit b
    · rfl
    · rw [f1, f2] at this; exact absurd (this.mpr rfl) (by decide)
    · rw [f1, f2] at this; exact absurd (this.mp rfl) (by decide)
    · rfl
theorem g_firstStart (hfl : l.stackTraces = false) (h : Wd S mc L w) {F H : Nat → Int} {B : Nat → Nat} (hR : RLeast S F H B) {t : Nat} (ht : t < tn S) : Can l yX7_firstStart wsX7_firstStart 14 4 24 [.ref 0, .int (nI t)] w (fun o w' => Wd S mc L w' ∧ o = .inl (some (.int (iI (F t))))) := by
  have hn := h.2.1.1.1
  refine Can.mono (f_firstStart hfl h.2.1.1 h.1 (nI t)) ?_
  rintro o w' ⟨h1, h2⟩
  obtain ⟨F', H', B', v, h3, h4, rfl, rfl⟩ := CAns.ok h2 (pIs hn ht) hR
  exact ⟨⟨h1, h.2⟩, by rw [cl (by omega), (h4 t ht).1]⟩
theorem g_lastEnd (hfl : l.stackTraces = false) (h : Wd S mc L w) {F H : Nat → Int} {B : Nat → Nat} (hR : RLeast S F H B) {t : Nat} (ht : t < tn S) : Can l yX7_lastEnd wsX7_lastEnd 14 4 24 [.ref 0, .int (nI t)] w (fun o w' => Wd S mc L w' ∧ o = .inl (some (.int (iI (H t))))) := by
  have hn := h.2.1.1.1
  refine Can.mono (f_lastEnd hfl h.2.1.1 h.1 (nI t)) ?_
  rintro o w' ⟨h1, h2⟩
  obtain ⟨F', H', B', v, h3, h4, rfl, rfl⟩ := CAns.ok h2 (pIs hn ht) hR
  exact ⟨⟨h1, h.2⟩, by rw [cl (by omega), (h4 t ht).2.1]⟩
theorem g_slack (hfl : l.stackTraces = false) (h : Wd S mc L w) {F H : Nat → Int} {B : Nat → Nat} (hR : RLeast S F H B) {t : Nat} (ht : t < tn S) : Can l yX7_slack wsX7_slack 14 4 24 [.ref 0, .int (nI t)] w (fun o w' => Wd S mc L w' ∧ o = .inl (some (.int (iI (H t - F t - (tP S t : Int)))))) := by
  have hn := h.2.1.1.1
  refine Can.mono (f_slack hfl h.2.1.1 h.1 (nI t)) ?_
  rintro o w' ⟨h1, h2⟩
  obtain ⟨F', H', B', v, h3, h4, rfl, rfl⟩ := CAns.ok h2 (pIs hn ht) hR
  exact ⟨⟨h1, h.2⟩, by rw [cl (by omega), (h4 t ht).1, (h4 t ht).2.1]⟩
theorem g_precedes (hfl : l.stackTraces = false) (h : Wd S mc L w) {F H : Nat → Int} {B : Nat → Nat} (hR : RLeast S F H B) {a b : Nat} (ha : a < tn S) (hb : b < tn S) : Can l yX7_precedes wsX7_precedes 14 4 24 [.ref 0, .int (nI a), .int (nI b)] w (fun o w' => Wd S mc L w' ∧ o = .inl (some (.int (zb ((B a).testBit b))))) := by
  have hn := h.2.1.1.1
  refine Can.mono (f_precedes hfl h.2.1.1 h.1 (nI a) (nI b)) ?_
  rintro o w' ⟨h1, h2⟩
  obtain ⟨F', H', B', v, h3, h4, rfl, rfl⟩ := CAns.ok h2 (by rw [pIs hn ha, pIs hn hb]; rfl) hR
  exact ⟨⟨h1, h.2⟩, by rw [cl (by omega), cl (by omega), (h4 a ha).2.2 b hb]⟩
theorem g_why (hfl : l.stackTraces = false) (h : Wd S mc L w) {F H : Nat → Int} {B : Nat → Nat} (hR : RLeast S F H B) {a b : Nat} (ha : a < tn S) (hb : b < tn S) (hab : (B a).testBit b = true) : Can l yX7_why wsX7_why 14 4 24 [.ref 0, .int (nI a), .int (nI b)] w (fun o w' => Wd S mc L w' ∧ ∃ v : Nat, v ≤ 3 ∧ o = .inl (some (.int (nI v)))) := by
  have hn := h.2.1.1.1
  refine Can.mono (f_why hfl h.2.1.1 h.1 (nI a) (nI b)) ?_
  rintro o w' ⟨h1, h2⟩
  obtain ⟨F', H', B', v, h3, h4, ⟨q, rfl, h5⟩, rfl⟩ := CAns.ok h2 (by rw [pIs hn ha, pIs hn hb]; rfl) hR
  refine ⟨⟨h1, h.2⟩, ?_⟩
  rw [cl (by omega), cl (by omega)] at h5
  obtain ⟨r, -, h6⟩ := h5 (LsR_ex S F' H' a b)
  rw [← (h4 a ha).2.2 b hb, hab, if_pos rfl] at h6
  rw [h6]
  split
  · exact ⟨0, by omega, congrArg (fun z => (Sum.inl (some (Value.int z)) : zO)) (iI_n 0).symm⟩
  · split
    · exact ⟨1, by omega, congrArg (fun z => (Sum.inl (some (Value.int z)) : zO)) (iI_n 1).symm⟩
    · split
      · exact ⟨3, by omega, congrArg (fun z => (Sum.inl (some (Value.int z)) : zO)) (iI_n 3).symm⟩
      · exact ⟨2, by omega, congrArg (fun z => (Sum.inl (some (Value.int z)) : zO)) (iI_n 2).symm⟩
theorem g_leastDue (hfl : l.stackTraces = false) (h : Wd S mc L w) {s q : Nat → Nat} (hP : IsPlan S s q) {t : Nat} (ht : t < tn S) : Can l yX7_leastDue wsX7_leastDue 14 4 24 [.ref 0, .int (nI t)] w (fun o w' => Wd S mc L w' ∧ ∃ d : Nat, 1 ≤ d ∧ d ≤ s t + tP S t ∧ o = .inl (some (.int (nI d)))) := by
  have hn := h.2.1.1.1
  refine Can.mono (f_leastDue hfl h.2.1.1 h.1 (nI t)) ?_
  rintro o w' ⟨h1, ⟨h2, -⟩ | ⟨-, v, h2, rfl⟩⟩
  · rw [pIs hn ht] at h2; cases h2
  · refine ⟨⟨h1, h.2⟩, ?_⟩
    rw [cl (by omega)] at h2
    have h3 := due_good hP ht
    have h4 := (hP.1 t ht).2
    have h5 := h.2.1.1.2.2.2 t ht
    rcases h2 with ⟨-, h6⟩ | ⟨d, h6, h7, rfl, h8, h9⟩
    · exact absurd h3 (h6 _ (by omega) (by omega))
    · refine ⟨d, h6, ?_, rfl⟩
      rcases Nat.lt_or_ge (s t + tP S t) d with h10 | h10
      · exact absurd h3 (h9 _ (by omega) h10)
      · exact h10
theorem g_lowerBound (hfl : l.stackTraces = false) (h : Wd S mc L w) : Can l yX7_lowerBound wsX7_lowerBound 14 4 24 [.ref 0] w (fun o w' => Wd S mc L w' ∧ ∃ v, LeastR (fun d => RGood (tsCap S d)) 0 v ∧ o = .inl (some (.int v))) := by
  refine Can.mono (f_lowerBound hfl h.2.1.1 h.1) ?_
  rintro o w' ⟨h1, h2⟩
  exact ⟨⟨h1, h.2⟩, h2⟩
theorem lb_le {v : Int32} (h : LeastR (fun d => RGood (tsCap S d)) 0 v) {c : Nat} (hc : c ≤ 400) (hg : RGood (tsCap S c)) : ∃ d : Nat, d ≤ c ∧ v = nI d := by
  rcases h with ⟨-, h6⟩ | ⟨d, h6, h7, rfl, h8, h9⟩
  · exact absurd hg (h6 _ (by omega) hc)
  · refine ⟨d, ?_, rfl⟩
    rcases Nat.lt_or_ge c d with h10 | h10
    · exact absurd hg (h9 _ (by omega) h10)
    · exact h10
theorem g_refutes (hfl : l.stackTraces = false) (h : Wd S mc L w) {a b : Nat} (ha : a < tn S) (hb : b < tn S) : Can l yX7_refutes wsX7_refutes 14 4 24 [.ref 0, .int (nI a), .int (nI b)] w (fun o w' => Wd S mc L w' ∧ ∃ z : Bool, o = .inl (some (.int (zb z))) ∧ (z = true ↔ a = b ∨ ¬ RGood (tsGive S a b true))) := by
  have hn := h.2.1.1.1
  refine Can.mono (f_refutes hfl h.2.1.1 h.1 (nI a) (nI b)) ?_
  rintro o w' ⟨h1, ⟨h2, -⟩ | ⟨-, v, rfl, h2⟩⟩
  · rw [pIs hn ha, pIs hn hb] at h2; cases h2
  · refine ⟨⟨h1, h.2⟩, ?_⟩
    rw [cl (by omega), cl (by omega)] at h2
    have e1 : nI a = nI b ↔ a = b := nI_eq (by omega) (by omega)
    rcases h2 with ⟨h3, rfl⟩ | ⟨h3, h4, rfl⟩ | ⟨h3, h4, rfl⟩
    · exact ⟨true, rfl, fun _ => Or.inl (e1.mp h3), fun _ => rfl⟩
    · refine ⟨false, rfl, ⟨fun h => absurd h (by decide), fun h => ?_⟩⟩
      rcases h with h | h
      · exact absurd (e1.mpr h) h3
      · exact absurd h4 h
    · exact ⟨true, rfl, fun _ => Or.inr h4, fun _ => rfl⟩
theorem g_drawn (hfl : l.stackTraces = false) (h : Wd S mc L w) {s c : Nat} (hs : s ≤ 999999) (hc : 1 ≤ c) (hc2 : c ≤ 50) : Can l yX7_drawn wsX7_drawn 14 4 24 [.ref 0, .int (nI s), .int (nI c)] w (fun o w' => Wd S mc L w' ∧ o = .inl (some (.int (iI (dMs S s c).2)))) := by
  refine Can.mono (f_drawn hfl h.2.1 h.1 (nI s) (nI c)) ?_
  rintro o w' ⟨h1, ⟨h2, -⟩ | ⟨-, rfl⟩⟩
  · exfalso
    apply h2
    refine ⟨⟨nI_pos' (by omega), ?_⟩, ?_, ?_⟩
    · rw [show (999999 : Int32) = nI 999999 from rfl]; exact nI_le hs (by omega)
    · rw [show (1 : Int32) = nI 1 from rfl]; exact nI_le hc (by omega)
    · rw [show (50 : Int32) = nI 50 from rfl]; exact nI_le hc2 (by omega)
  · exact ⟨⟨h1, h.2⟩, by rw [cl (by omega), cl (by omega)]⟩
theorem g_decided (hfl : l.stackTraces = false) (h : Wd S mc L w) {F H : Nat → Int} {B : Nat → Nat} (hR : RLeast S F H B) : Can l yX7_decided wsX7_decided 14 4 24 [.ref 0] w (fun o w' => Wd S mc L w' ∧ o = .inl (some (.double (decV (nPairs S) (nOpen S B))))) := by
  refine Can.mono (f_decided hfl h.2.1.1 h.1) ?_
  rintro o w' ⟨h1, ⟨h2, -⟩ | ⟨F', H', B', h2, rfl⟩⟩
  · exact absurd (RLeast_good hR) h2
  · exact ⟨⟨h1, h.2⟩, by rw [pOpen_eq h2 hR]⟩
theorem g_begin (hfl : l.stackTraces = false) (h : Wd S mc L w) {m : Nat} (h1 : 1 ≤ m) (h3 : m ≤ 3) : Can l yX7_begin wsX7_begin 14 4 24 [.ref 0, .int (nI m)] w (fun o w' => Wd tsNone m (svP L (mc, S)) w' ∧ o = .inl (some (.int (nI (tn S))))) := by
  refine Can.mono (f_begin hfl h.2.1.1 h.2.2 h.1 (nI m)) ?_
  rintro o w' (⟨h2, -⟩ | ⟨-, rfl, h2⟩)
  · exfalso
    apply h2
    rw [show (1 : Int32) = nI 1 from rfl, show (3 : Int32) = nI 3 from rfl]
    exact ⟨nI_le h1 (by omega), nI_le h3 (by omega)⟩
  · rw [cl (by omega)] at h2
    exact ⟨⟨h2, tsNone_fine h1 h3, pSv_push h.2.2 h.2.1⟩, rfl⟩
theorem g_addTask (hfl : l.stackTraces = false) (h : Wd S mc L w) {m r d p : Nat} (h8 : tn S < 8) (hm : m < mc) (hr : r ≤ 200) (hd1 : 1 ≤ d) (hd : d ≤ 400) (hp1 : 1 ≤ p) (hp : p ≤ 50) : Can l yX7_addTask wsX7_addTask 14 4 24 [.ref 0, .int (nI m), .int (nI r), .int (nI d), .int (nI p)] w (fun o w' => Wd (tsAdd S m r d p) mc (svP L (mc, S)) w' ∧ o = .inl (some (.int (nI (tn S))))) := by
  have h3 := h.2.1.1.2.2.1
  have hf : fAdd mc (tn S) (nI m) (nI r) (nI d) (nI p) = 0 := by
    unfold fAdd
    rw [show (1 : Int32) = nI 1 from rfl, show (200 : Int32) = nI 200 from rfl, show (400 : Int32) = nI 400 from rfl, show (50 : Int32) = nI 50 from rfl]
    rw [if_neg (fun e => e ⟨nI_pos' (by omega), nI_lt hm (by omega)⟩), if_neg (fun e => e ⟨⟨⟨nI_pos' (by omega), nI_le hr (by omega)⟩, nI_le hd1 (by omega), nI_le hd (by omega)⟩, nI_le hp1 (by omega), nI_le hp (by omega)⟩), if_neg (by omega)]
  refine Can.mono (f_addTask hfl h.2.1.1 h.2.2 h.1 (nI m) (nI r) (nI d) (nI p)) ?_
  rintro o w' (⟨h2, -⟩ | ⟨-, rfl, h2⟩)
  · rw [hf] at h2
    rcases h2 with ⟨h2, -⟩ | ⟨h2, -⟩ | ⟨h2, -⟩ <;> cases h2
  · rw [cl (by omega), cl (by omega), cl (by omega), cl (by omega)] at h2
    exact ⟨⟨h2, Fine_add h.2.1 h8 hm hr hd hp1 hp, pSv_push h.2.2 h.2.1⟩, rfl⟩
theorem g_give (hfl : l.stackTraces = false) (h : Wd S mc L w) {a b : Nat} (ha : a < tn S) (hb : b < tn S) (hab : a ≠ b) (hno : (tG S a).testBit b = false) (hrr : (rr S b).testBit a = false) : Can l yX7_give wsX7_give 14 4 24 [.ref 0, .int (nI a), .int (nI b), .int 1] w (fun o w' => Wd (tsGive S a b true) mc (svP L (mc, S)) w' ∧ o = .inl (some (.int (nI (gMany S + 1))))) := by
  have hn := h.2.1.1.1
  have hf : fG S (nI a) (nI b) true = 0 := by
    unfold fG fGive
    rw [pIs hn ha, pIs hn hb, cl (by omega), cl (by omega), if_pos (show (true && true) = true from rfl), if_neg hab, if_neg]
    rintro (e | ⟨-, e⟩)
    · rw [hno] at e; cases e
    · rw [hrr] at e; cases e
  refine Can.mono (f_give hfl h.2.1.1 h.2.2 h.1 (nI a) (nI b) true) ?_
  rintro o w' (⟨h2, -⟩ | ⟨-, rfl, h2⟩)
  · rw [hf] at h2
    rcases h2 with ⟨h2, -⟩ | ⟨h2, -⟩ | ⟨h2, -⟩ <;> cases h2
  · rw [cl (by omega), cl (by omega)] at h2 ⊢
    exact ⟨⟨h2, Fine_give h.2.1 ha hb (fun _ => ⟨hab, hrr⟩), pSv_push h.2.2 h.2.1⟩, by rw [gMany_give ha (by omega) hno]⟩
theorem g_giveDominance (hfl : l.stackTraces = false) (h : Wd S mc L w) : Can l yX7_giveDominance wsX7_giveDominance 14 4 24 [.ref 0] w (fun o w' => Wd (gdA S (tn S)).1 mc (svP L (mc, S)) w' ∧ o = .inl (some (.int (nI (gdA S (tn S)).2)))) := by
  refine Can.mono (f_giveDominance hfl h.2.1 h.2.2 h.1) ?_
  rintro o w' ⟨rfl, h2⟩
  exact ⟨⟨h2, (gdA_ok h.2.1 (tn S) (Nat.le_refl _)).1, pSv_push h.2.2 h.2.1⟩, rfl⟩
theorem g_undo (hfl : l.stackTraces = false) {S0 : TS} {mc0 : Nat} {L0 : List (Nat × TS)} (hL0 : SvOk L0) (hf0 : Fine S0 mc0) (h : Wd S mc (svP L0 (mc0, S0)) w) : Can l yX7_undo wsX7_undo 14 4 24 [.ref 0] w (fun o w' => ∃ (L1 : List (Nat × TS)) (k : Nat), k ≤ 4 ∧ Wd S0 mc0 L1 w' ∧ o = .inl (some (.int (nI k)))) := by
  refine Can.mono (f_undo hfl h.2.2 h.1) ?_
  rintro o w' (⟨h2, -⟩ | ⟨L1, x, h2, rfl, h3⟩)
  · unfold svP at h2
    simp at h2
  · have e : x = (mc0, S0) ∧ L1 = (if L0.length = 4 then L0.tail else L0) := by
      unfold svP at h2
      have h4 := List.append_inj' h2 rfl
      exact ⟨by have := h4.2; simp at this; exact this.symm, h4.1.symm⟩
    obtain ⟨rfl, e⟩ := e
    have hsub : ∀ y, y ∈ L1 → y ∈ L0 := fun y hy => by
      rw [e] at hy
      split at hy
      · exact List.mem_of_mem_tail hy
      · exact hy
    have hlen : L1.length ≤ 4 := by
      rw [e]
      have := hL0.1
      split
      · rw [List.length_tail]; omega
      · exact this
    exact ⟨L1, L1.length, hlen, ⟨h3, hf0, hlen, fun y hy => hL0.2 y (hsub y hy)⟩, rfl⟩
end WD1
