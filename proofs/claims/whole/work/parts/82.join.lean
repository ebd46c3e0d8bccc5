/-! BOTH SIDES, step by step -/
section JJ
/-- one state on both sides; r: what the reference says of the last call's refusal -/
def Jr (r : Int32) (wx wm : zW) : Prop := ∃ (S : TS) (mc : Nat) (L : List (Nat × TS)) (N : Nat) (tx : Nat → Nat), IsFa S mc L N tx wx ∧ MoA S mc L N tx r wm ∧ Fine S mc ∧ SvOk L ∧ TxOk N tx
/-- what a call may answer -/
def ShI (es : List String) (Φ : zO → zW → Prop) : Prop := ∀ o w, Φ o w → (∃ v, o = .inl (some (.int v))) ∨ ∃ E ∈ es, o = .inr E
def ShD (Φ : zO → zW → Prop) : Prop := ∀ o w, Φ o w → (∃ v, o = .inl (some (.double v))) ∨ o = .inr "java/lang/IllegalStateException"
def ShJ (Φ : zO → zW → Prop) : Prop := ∀ o w, Φ o w → ∃ v, o = .inl (some (.long v))
theorem CAns.sh {S : TS} {okb : Bool} {g : (Nat → Int) → (Nat → Int) → (Nat → Nat) → Int32 → Prop} {o : zO} (h : CAns S okb g o) : (∃ v, o = .inl (some (.int v))) ∨ ∃ E ∈ ["java/lang/IndexOutOfBoundsException", "java/lang/IllegalStateException"], o = .inr E := by
  rcases h with ⟨_, e⟩ | ⟨_, _, e⟩ | ⟨_, _, _, _, _, _, _, _, e⟩
  · exact Or.inr ⟨_, by simp, e⟩
  · exact Or.inr ⟨_, by simp, e⟩
  · exact Or.inl ⟨_, e⟩
theorem Refd.sh {f : Nat} {o : zO} (h : Refd f o) : (∃ v, o = .inl (some (.int v))) ∨ ∃ E ∈ ["java/lang/IndexOutOfBoundsException", "java/lang/IllegalArgumentException", "java/lang/IllegalStateException"], o = .inr E := by
  rcases h with ⟨_, e⟩ | ⟨_, e⟩ | ⟨_, e⟩
  · exact Or.inr ⟨_, by simp, e⟩
  · exact Or.inr ⟨_, by simp, e⟩
  · exact Or.inr ⟨_, by simp, e⟩
def JoinI (es : List String) (Φ Ψ : zO → zW → Prop) : Prop := ∀ o wx o2 wm, Φ o wx → Ψ o2 wm → ∃ r v, o2 = .inl (some (.int v)) ∧ AgI es o r v ∧ Jr r wx wm
def JoinD (Φ Ψ : zO → zW → Prop) : Prop := ∀ o wx o2 wm, Φ o wx → Ψ o2 wm → ∃ r v, o2 = .inl (some (.double v)) ∧ ((o = .inl (some (.double v)) ∧ r = 0) ∨ (o = .inr "java/lang/IllegalStateException" ∧ r = 1)) ∧ Jr r wx wm
def JoinJ (Φ Ψ : zO → zW → Prop) : Prop := ∀ o wx o2 wm, Φ o wx → Ψ o2 wm → ∃ v, o2 = .inl (some (.long v)) ∧ o = .inl (some (.long v)) ∧ Jr 0 wx wm
variable {l : Launch} {r0 : Int32} {wx wm : zW}

theorem J_firstStart (hfl : l.stackTraces = false) (hJ : Jr r0 wx wm) (t : Int32) : ∃ Φ Ψ, Can l yX7_firstStart wsX7_firstStart 14 4 24 [.ref 0, .int t] wx Φ ∧ Can l yX8_firstStart wsX8_firstStart 4 0 0 [.ref 0, .int t] wm Ψ ∧ ShI ["java/lang/IndexOutOfBoundsException", "java/lang/IllegalStateException"] Φ ∧ JoinI ["java/lang/IndexOutOfBoundsException", "java/lang/IllegalStateException"] Φ Ψ := by
  obtain ⟨S, mc, L, N, tx, hI, hM, hF, hL, hT⟩ := hJ
  have hok := hF.1
  have hn := hok.1
  refine ⟨_, _, f_firstStart hfl hok hI t, r_firstStart hfl hok hM t, (fun o w h => CAns.sh h.2), ?_⟩
  rintro o wx o2 wm ⟨hI', hc⟩ ⟨r, v, rfl, hM', hp⟩
  have hj : Jr r wx wm := ⟨S, mc, L, N, tx, hI', hM', hF, hL, hT⟩
  exact ⟨r, v, rfl, a_firstStart hn hc hp, hj⟩

theorem J_lastEnd (hfl : l.stackTraces = false) (hJ : Jr r0 wx wm) (t : Int32) : ∃ Φ Ψ, Can l yX7_lastEnd wsX7_lastEnd 14 4 24 [.ref 0, .int t] wx Φ ∧ Can l yX8_lastEnd wsX8_lastEnd 4 0 0 [.ref 0, .int t] wm Ψ ∧ ShI ["java/lang/IndexOutOfBoundsException", "java/lang/IllegalStateException"] Φ ∧ JoinI ["java/lang/IndexOutOfBoundsException", "java/lang/IllegalStateException"] Φ Ψ := by
  obtain ⟨S, mc, L, N, tx, hI, hM, hF, hL, hT⟩ := hJ
  have hok := hF.1
  have hn := hok.1
  refine ⟨_, _, f_lastEnd hfl hok hI t, r_lastEnd hfl hok hM t, (fun o w h => CAns.sh h.2), ?_⟩
  rintro o wx o2 wm ⟨hI', hc⟩ ⟨r, v, rfl, hM', hp⟩
  have hj : Jr r wx wm := ⟨S, mc, L, N, tx, hI', hM', hF, hL, hT⟩
  exact ⟨r, v, rfl, a_lastEnd hn hc hp, hj⟩

theorem J_slack (hfl : l.stackTraces = false) (hJ : Jr r0 wx wm) (t : Int32) : ∃ Φ Ψ, Can l yX7_slack wsX7_slack 14 4 24 [.ref 0, .int t] wx Φ ∧ Can l yX8_slack wsX8_slack 4 0 0 [.ref 0, .int t] wm Ψ ∧ ShI ["java/lang/IndexOutOfBoundsException", "java/lang/IllegalStateException"] Φ ∧ JoinI ["java/lang/IndexOutOfBoundsException", "java/lang/IllegalStateException"] Φ Ψ := by
  obtain ⟨S, mc, L, N, tx, hI, hM, hF, hL, hT⟩ := hJ
  have hok := hF.1
  have hn := hok.1
  refine ⟨_, _, f_slack hfl hok hI t, r_slack hfl hok hM t, (fun o w h => CAns.sh h.2), ?_⟩
  rintro o wx o2 wm ⟨hI', hc⟩ ⟨r, v, rfl, hM', hp⟩
  have hj : Jr r wx wm := ⟨S, mc, L, N, tx, hI', hM', hF, hL, hT⟩
  exact ⟨r, v, rfl, a_slack hn hc hp, hj⟩

theorem J_precedes (hfl : l.stackTraces = false) (hJ : Jr r0 wx wm) (a b : Int32) : ∃ Φ Ψ, Can l yX7_precedes wsX7_precedes 14 4 24 [.ref 0, .int a, .int b] wx Φ ∧ Can l yX8_precedes wsX8_precedes 4 0 0 [.ref 0, .int a, .int b] wm Ψ ∧ ShI ["java/lang/IndexOutOfBoundsException", "java/lang/IllegalStateException"] Φ ∧ JoinI ["java/lang/IndexOutOfBoundsException", "java/lang/IllegalStateException"] Φ Ψ := by
  obtain ⟨S, mc, L, N, tx, hI, hM, hF, hL, hT⟩ := hJ
  have hok := hF.1
  have hn := hok.1
  refine ⟨_, _, f_precedes hfl hok hI a b, r_precedes hfl hok hM a b, (fun o w h => CAns.sh h.2), ?_⟩
  rintro o wx o2 wm ⟨hI', hc⟩ ⟨r, v, rfl, hM', hp⟩
  have hj : Jr r wx wm := ⟨S, mc, L, N, tx, hI', hM', hF, hL, hT⟩
  exact ⟨r, v, rfl, a_precedes hn hc hp, hj⟩

theorem J_why (hfl : l.stackTraces = false) (hJ : Jr r0 wx wm) (a b : Int32) : ∃ Φ Ψ, Can l yX7_why wsX7_why 14 4 24 [.ref 0, .int a, .int b] wx Φ ∧ Can l yX8_why wsX8_why 4 0 0 [.ref 0, .int a, .int b] wm Ψ ∧ ShI ["java/lang/IndexOutOfBoundsException", "java/lang/IllegalStateException"] Φ ∧ JoinI ["java/lang/IndexOutOfBoundsException", "java/lang/IllegalStateException"] Φ Ψ := by
  obtain ⟨S, mc, L, N, tx, hI, hM, hF, hL, hT⟩ := hJ
  have hok := hF.1
  have hn := hok.1
  refine ⟨_, _, f_why hfl hok hI a b, r_why hfl hok hM a b, (fun o w h => CAns.sh h.2), ?_⟩
  rintro o wx o2 wm ⟨hI', hc⟩ ⟨r, v, rfl, hM', hp⟩
  have hj : Jr r wx wm := ⟨S, mc, L, N, tx, hI', hM', hF, hL, hT⟩
  exact ⟨r, v, rfl, a_why hn hc hp, hj⟩

theorem J_because (hfl : l.stackTraces = false) (hJ : Jr r0 wx wm) (a b : Int32) : ∃ Φ Ψ, Can l yX7_because wsX7_because 14 4 24 [.ref 0, .int a, .int b] wx Φ ∧ Can l yX8_because wsX8_because 4 0 0 [.ref 0, .int a, .int b] wm Ψ ∧ ShI ["java/lang/IndexOutOfBoundsException", "java/lang/IllegalStateException"] Φ ∧ JoinI ["java/lang/IndexOutOfBoundsException", "java/lang/IllegalStateException"] Φ Ψ := by
  obtain ⟨S, mc, L, N, tx, hI, hM, hF, hL, hT⟩ := hJ
  have hok := hF.1
  have hn := hok.1
  refine ⟨_, _, f_because hfl hok hI a b, r_because hfl hok hM a b, (fun o w h => CAns.sh h.2), ?_⟩
  rintro o wx o2 wm ⟨hI', hc⟩ ⟨r, v, rfl, hM', hp⟩
  have hj : Jr r wx wm := ⟨S, mc, L, N, tx, hI', hM', hF, hL, hT⟩
  exact ⟨r, v, rfl, a_because hn hc hp, hj⟩

theorem J_dominates (hfl : l.stackTraces = false) (hJ : Jr r0 wx wm) (a b : Int32) : ∃ Φ Ψ, Can l yX7_dominates wsX7_dominates 14 4 24 [.ref 0, .int a, .int b] wx Φ ∧ Can l yX8_dominates wsX8_dominates 3 0 0 [.ref 0, .int a, .int b] wm Ψ ∧ ShI ["java/lang/IndexOutOfBoundsException"] Φ ∧ JoinI ["java/lang/IndexOutOfBoundsException"] Φ Ψ := by
  obtain ⟨S, mc, L, N, tx, hI, hM, hF, hL, hT⟩ := hJ
  have hok := hF.1
  have hn := hok.1
  refine ⟨_, _, f_dominates hfl hok hI a b, r_dominates hfl hok hM a b, (fun o w h => by
    rcases h.2 with ⟨_, e⟩ | ⟨_, e⟩
    · exact Or.inr ⟨_, by simp, e⟩
    · exact Or.inl ⟨_, e⟩), ?_⟩
  rintro o wx o2 wm ⟨hI', hc⟩ ⟨r, v, rfl, hM', hp⟩
  have hj : Jr r wx wm := ⟨S, mc, L, N, tx, hI', hM', hF, hL, hT⟩
  refine ⟨r, v, rfl, ?_, hj⟩
  rcases hc with ⟨h1, h2⟩ | ⟨h1, h2⟩ <;> rcases hp with ⟨k1, k2⟩ | ⟨k1, k2, k3⟩
  · exact AgI.e1 h2 k2
  · rw [h1] at k1; cases k1
  · rw [h1] at k1; cases k1
  · exact AgI.ok h2 k2 k3.symm

theorem J_refutes (hfl : l.stackTraces = false) (hJ : Jr r0 wx wm) (a b : Int32) : ∃ Φ Ψ, Can l yX7_refutes wsX7_refutes 14 4 24 [.ref 0, .int a, .int b] wx Φ ∧ Can l yX8_refutes wsX8_refutes 3 0 0 [.ref 0, .int a, .int b] wm Ψ ∧ ShI ["java/lang/IndexOutOfBoundsException"] Φ ∧ JoinI ["java/lang/IndexOutOfBoundsException"] Φ Ψ := by
  obtain ⟨S, mc, L, N, tx, hI, hM, hF, hL, hT⟩ := hJ
  have hok := hF.1
  have hn := hok.1
  refine ⟨_, _, f_refutes hfl hok hI a b, r_refutes hfl hok hM a b, (fun o w h => by
    rcases h.2 with ⟨_, e⟩ | ⟨_, v, e, _⟩
    · exact Or.inr ⟨_, by simp, e⟩
    · exact Or.inl ⟨_, e⟩), ?_⟩
  rintro o wx o2 wm ⟨hI', hc⟩ ⟨r, v, rfl, hM', hp⟩
  have hj : Jr r wx wm := ⟨S, mc, L, N, tx, hI', hM', hF, hL, hT⟩
  refine ⟨r, v, rfl, ?_, hj⟩
  rcases hc with ⟨h1, h2⟩ | ⟨h1, u, h2, h3⟩ <;> rcases hp with ⟨k1, k2⟩ | ⟨k1, k2, k3⟩
  · exact AgI.e1 h2 k2
  · rw [h1] at k1; cases k1
  · rw [h1] at k1; cases k1
  · refine AgI.ok h2 k2 ?_
    rcases h3 with ⟨g1, rfl⟩ | ⟨g1, g2, rfl⟩ | ⟨g1, g2, rfl⟩ <;> rcases k3 with ⟨e1, rfl⟩ | ⟨e1, e2, rfl⟩ | ⟨e1, e2, rfl⟩
    · rfl
    · exact absurd g1 e1
    · exact absurd g1 e1
    · exact absurd e1 g1
    · rfl
    · exact absurd g2 e2
    · exact absurd e1 g1
    · exact absurd e2 g2
    · rfl

theorem J_leastDue (hfl : l.stackTraces = false) (hJ : Jr r0 wx wm) (t : Int32) : ∃ Φ Ψ, Can l yX7_leastDue wsX7_leastDue 14 4 24 [.ref 0, .int t] wx Φ ∧ Can l yX8_leastDue wsX8_leastDue 3 0 0 [.ref 0, .int t] wm Ψ ∧ ShI ["java/lang/IndexOutOfBoundsException"] Φ ∧ JoinI ["java/lang/IndexOutOfBoundsException"] Φ Ψ := by
  obtain ⟨S, mc, L, N, tx, hI, hM, hF, hL, hT⟩ := hJ
  have hok := hF.1
  have hn := hok.1
  refine ⟨_, _, f_leastDue hfl hok hI t, r_leastDue hfl hok hM t, (fun o w h => by
    rcases h.2 with ⟨_, e⟩ | ⟨_, v, _, e⟩
    · exact Or.inr ⟨_, by simp, e⟩
    · exact Or.inl ⟨_, e⟩), ?_⟩
  rintro o wx o2 wm ⟨hI', hc⟩ ⟨r, v, rfl, hM', hp⟩
  have hj : Jr r wx wm := ⟨S, mc, L, N, tx, hI', hM', hF, hL, hT⟩
  refine ⟨r, v, rfl, ?_, hj⟩
  rcases hc with ⟨h1, h2⟩ | ⟨h1, u, h2, h3⟩ <;> rcases hp with ⟨k1, k2⟩ | ⟨k1, k2, k3⟩
  · exact AgI.e1 h2 k2
  · rw [h1] at k1; cases k1
  · rw [h1] at k1; cases k1
  · exact AgI.ok h3 k2 (h2.uniq k3)

theorem J_task (hfl : l.stackTraces = false) (hJ : Jr r0 wx wm) (t x : Int32) : ∃ Φ Ψ, Can l yX7_task wsX7_task 14 4 24 [.ref 0, .int t, .int x] wx Φ ∧ Can l yX8_task wsX8_task 2 0 0 [.ref 0, .int t, .int x] wm Ψ ∧ ShI ["java/lang/IndexOutOfBoundsException", "java/lang/IllegalArgumentException"] Φ ∧ JoinI ["java/lang/IndexOutOfBoundsException", "java/lang/IllegalArgumentException"] Φ Ψ := by
  obtain ⟨S, mc, L, N, tx, hI, hM, hF, hL, hT⟩ := hJ
  have hok := hF.1
  have hn := hok.1
  refine ⟨_, _, f_task hfl hok hI t x, r_task hfl hok hM t x, (fun o w h => by
    rcases h.2 with ⟨_, e⟩ | ⟨_, _, e⟩ | ⟨_, q, _, _, e⟩
    · exact Or.inr ⟨_, by simp, e⟩
    · exact Or.inr ⟨_, by simp, e⟩
    · exact Or.inl ⟨_, e⟩), ?_⟩
  rintro o wx o2 wm ⟨hI', hc⟩ ⟨r, v, rfl, hM', hp⟩
  have hj : Jr r wx wm := ⟨S, mc, L, N, tx, hI', hM', hF, hL, hT⟩
  refine ⟨r, v, rfl, ?_, hj⟩
  rcases hc with ⟨h1, h2⟩ | ⟨h1, h2, h3⟩ | ⟨h1, q, h2, h3, h4⟩ <;> rcases hp with ⟨k1, k2⟩ | ⟨k1, k2, k3⟩ | ⟨k1, k2, q', k3, k4, k5⟩
  · exact AgI.e1 h2 k2
  · rw [h1] at k1; cases k1
  · rw [h1] at k1; cases k1
  · rw [h1] at k1; cases k1
  · exact AgI.e2 h3 k3
  · refine absurd ?_ h2
    rw [k3]
    exact ⟨nI_pos' (by omega), (nI_leI (b := 5) (by omega) (by omega)).mpr (by omega)⟩
  · rw [h1] at k1; cases k1
  · refine absurd ?_ k2
    rw [h2]
    exact ⟨nI_pos' (by omega), (nI_leI (b := 5) (by omega) (by omega)).mpr (by omega)⟩
  · rw [h2] at k3
    have e := (nI_eq (by omega) (by omega)).mp k3
    subst e
    exact AgI.ok h4 k2 k5.symm

theorem J_value (hfl : l.stackTraces = false) (hJ : Jr r0 wx wm) (x : Int32) : ∃ Φ Ψ, Can l yX7_value wsX7_value 14 4 24 [.ref 0, .int x] wx Φ ∧ Can l yX8_value wsX8_value 4 0 0 [.ref 0, .int x] wm Ψ ∧ ShI ["java/lang/IllegalArgumentException"] Φ ∧ JoinI ["java/lang/IllegalArgumentException"] Φ Ψ := by
  obtain ⟨S, mc, L, N, tx, hI, hM, hF, hL, hT⟩ := hJ
  have hok := hF.1
  have hn := hok.1
  refine ⟨_, _, f_value hfl hok hI x, r_value hfl hok hM x, (fun o w h => by
    rcases h.2 with ⟨_, e⟩ | ⟨_, v, _, e⟩
    · exact Or.inr ⟨_, by simp, e⟩
    · exact Or.inl ⟨_, e⟩), ?_⟩
  rintro o wx o2 wm ⟨hI', hc⟩ ⟨r, v, rfl, hM', hp⟩
  have hj : Jr r wx wm := ⟨S, mc, L, N, tx, hI', hM', hF, hL, hT⟩
  refine ⟨r, v, rfl, ?_, hj⟩
  rcases hc with ⟨h1, h2⟩ | ⟨h1, u, h2, h3⟩ <;> rcases hp with ⟨k1, k2, k3⟩ | ⟨k1, k2, k3⟩
  · exact AgI.e1 h2 k2
  · exact absurd (of_decide_eq_true k1) h1
  · exact absurd h1 (of_decide_eq_false k1)
  · exact AgI.ok h3 k2 (NumR_uniq h2 k3)

theorem J_inBest (hfl : l.stackTraces = false) (hJ : Jr r0 wx wm) (t x : Int32) : ∃ Φ Ψ, Can l yX7_inBest wsX7_inBest 14 4 24 [.ref 0, .int t, .int x] wx Φ ∧ Can l yX8_inBest wsX8_inBest 4 0 0 [.ref 0, .int t, .int x] wm Ψ ∧ ShI ["java/lang/IndexOutOfBoundsException", "java/lang/IllegalArgumentException"] Φ ∧ JoinI ["java/lang/IndexOutOfBoundsException", "java/lang/IllegalArgumentException"] Φ Ψ := by
  obtain ⟨S, mc, L, N, tx, hI, hM, hF, hL, hT⟩ := hJ
  have hok := hF.1
  have hn := hok.1
  refine ⟨_, _, f_inBest hfl hok hI t x, r_inBest hfl hok hM t x, (fun o w h => by
    rcases h.2 with ⟨_, e⟩ | ⟨_, _, e⟩ | ⟨_, _, vb, β, v, _, e, _⟩
    · exact Or.inr ⟨_, by simp, e⟩
    · exact Or.inr ⟨_, by simp, e⟩
    · exact Or.inl ⟨_, e⟩), ?_⟩
  rintro o wx o2 wm ⟨hI', hc⟩ ⟨r, v, rfl, hM', hp⟩
  have hj : Jr r wx wm := ⟨S, mc, L, N, tx, hI', hM', hF, hL, hT⟩
  refine ⟨r, v, rfl, ?_, hj⟩
  rcases hc with ⟨h1, h2⟩ | ⟨h1, h2, h3⟩ | ⟨h1, h2, vb, β, u, h3, h4, h5⟩ <;> rcases hp with ⟨k1, k2⟩ | ⟨k1, k2, k3⟩ | ⟨k1, k2, k3, vb', β', k4, k5⟩
  · exact AgI.e1 h2 k2
  · rw [h1] at k1; cases k1
  · rw [h1] at k1; cases k1
  · rw [h1] at k1; cases k1
  · exact AgI.e2 h3 k3
  · exact absurd k2 h2
  · rw [h1] at k1; cases k1
  · exact absurd h2 k2
  · refine AgI.ok h4 k3 ?_
    obtain ⟨e1, e2⟩ := h3.uniq k4
    subst e1
    rcases h5 with ⟨g1, rfl⟩ | ⟨g1, j, g2, g3, g4⟩ <;> rcases k5 with ⟨q1, rfl⟩ | ⟨q1, j', q2, q3, q4⟩
    · rfl
    · exact absurd g1 q1
    · exact absurd q1 g1
    · have e2 := e2 g1
      have ej : j = j' := ConsK_inj' (h3.c g1) g2 q2 (by rw [g3, e2 j' q2, q3])
      subst ej
      rcases g4 with ⟨x1, rfl⟩ | ⟨x1, rfl⟩ <;> rcases q4 with ⟨y1, rfl⟩ | ⟨y1, rfl⟩
      · rfl
      · exact absurd x1 y1
      · exact absurd y1 x1
      · rw [stA_congr e2]

theorem J_drawn (hfl : l.stackTraces = false) (hJ : Jr r0 wx wm) (s c : Int32) : ∃ Φ Ψ, Can l yX7_drawn wsX7_drawn 14 4 24 [.ref 0, .int s, .int c] wx Φ ∧ Can l yX8_drawn wsX8_drawn 4 0 0 [.ref 0, .int s, .int c] wm Ψ ∧ ShI ["java/lang/IllegalArgumentException"] Φ ∧ JoinI ["java/lang/IllegalArgumentException"] Φ Ψ := by
  obtain ⟨S, mc, L, N, tx, hI, hM, hF, hL, hT⟩ := hJ
  have hok := hF.1
  have hn := hok.1
  refine ⟨_, _, f_drawn hfl hF hI s c, r_drawn hfl hF hM s c, (fun o w h => by
    rcases h.2 with ⟨_, e⟩ | ⟨_, e⟩
    · exact Or.inr ⟨_, by simp, e⟩
    · exact Or.inl ⟨_, e⟩), ?_⟩
  rintro o wx o2 wm ⟨hI', hc⟩ ⟨r, v, rfl, hM', hp⟩
  have hj : Jr r wx wm := ⟨S, mc, L, N, tx, hI', hM', hF, hL, hT⟩
  refine ⟨r, v, rfl, ?_, hj⟩
  rcases hc with ⟨h1, h2⟩ | ⟨h1, h2⟩ <;> rcases hp with ⟨k1, k2⟩ | ⟨k1, k2, k3⟩
  · exact AgI.e1 h2 k2
  · exact absurd k1 h1
  · exact absurd h1 k1
  · exact AgI.ok h2 k2 k3.symm

theorem J_makespan (hfl : l.stackTraces = false) (hJ : Jr r0 wx wm) : ∃ Φ Ψ, Can l yX7_makespan wsX7_makespan 14 4 24 [.ref 0] wx Φ ∧ Can l yX8_makespan wsX8_makespan 4 0 0 [.ref 0] wm Ψ ∧ ShI [] Φ ∧ JoinI [] Φ Ψ := by
  obtain ⟨S, mc, L, N, tx, hI, hM, hF, hL, hT⟩ := hJ
  have hok := hF.1
  have hn := hok.1
  refine ⟨_, _, f_makespan hfl hok hI, r_makespan hfl hok hM, (fun o w h => by
    obtain ⟨_, v, β, _, e⟩ := h
    exact Or.inl ⟨_, e⟩), ?_⟩
  rintro o wx o2 wm ⟨hI', v, β, hB, rfl⟩ ⟨v', β', rfl, hM', hB'⟩
  exact ⟨0, _, rfl, AgI.ok rfl rfl (by rw [(hB.uniq hB').1]), S, mc, L, N, tx, hI', hM', hF, hL, hT⟩

theorem J_lowerBound (hfl : l.stackTraces = false) (hJ : Jr r0 wx wm) : ∃ Φ Ψ, Can l yX7_lowerBound wsX7_lowerBound 14 4 24 [.ref 0] wx Φ ∧ Can l yX8_lowerBound wsX8_lowerBound 3 0 0 [.ref 0] wm Ψ ∧ ShI [] Φ ∧ JoinI [] Φ Ψ := by
  obtain ⟨S, mc, L, N, tx, hI, hM, hF, hL, hT⟩ := hJ
  have hok := hF.1
  have hn := hok.1
  refine ⟨_, _, f_lowerBound hfl hok hI, r_lowerBound hfl hok hM, (fun o w h => by
    obtain ⟨_, v, _, e⟩ := h
    exact Or.inl ⟨_, e⟩), ?_⟩
  rintro o wx o2 wm ⟨hI', v, hv, rfl⟩ ⟨v', rfl, hM', hv'⟩
  exact ⟨0, _, rfl, AgI.ok rfl rfl (hv.uniq hv'), S, mc, L, N, tx, hI', hM', hF, hL, hT⟩

theorem J_begin (hfl : l.stackTraces = false) (hJ : Jr r0 wx wm) (m : Int32) : ∃ Φ Ψ, Can l yX7_begin wsX7_begin 14 4 24 [.ref 0, .int m] wx Φ ∧ Can l yX8_begin wsX8_begin 1 0 0 [.ref 0, .int m] wm Ψ ∧ ShI ["java/lang/IllegalArgumentException"] Φ ∧ JoinI ["java/lang/IllegalArgumentException"] Φ Ψ := by
  obtain ⟨S, mc, L, N, tx, hI, hM, hF, hL, hT⟩ := hJ
  have hok := hF.1
  have hn := hok.1
  refine ⟨_, _, f_begin hfl hok hL hI m, r_begin hfl hok hL hM m, (fun o w h => by
    rcases h with ⟨_, e, _⟩ | ⟨_, e, _⟩
    · exact Or.inr ⟨_, by simp, e⟩
    · exact Or.inl ⟨_, e⟩), ?_⟩
  rintro o wx o2 wm hc ⟨r, v, rfl, hp⟩
  rcases hc with ⟨h1, h2, h3⟩ | ⟨h1, h2, h3⟩ <;> rcases hp with ⟨k1, k2, k3⟩ | ⟨k1, k2, k3, k4⟩
  · exact ⟨r, v, rfl, AgI.e1 h2 k2, S, mc, L, N, tx, h3, k3, hF, hL, hT⟩
  · exact absurd k1 h1
  · exact absurd h1 k1
  · obtain ⟨k, kk, rfl⟩ := nI_of (x := m) (Int32.not_lt.mpr (Int32.le_trans (by decide) h1.1))
    have b1 := (nI_leI (a := 1) (by omega) kk).mp h1.1
    have b3 := (nI_leI (b := 3) kk (by omega)).mp h1.2
    rw [cl (by omega)] at h3 k4
    exact ⟨r, v, rfl, AgI.ok h2 k2 k3.symm, tsNone, k, svP L (mc, S), N, tx, h3, k4, tsNone_fine b1 b3, hL.push hF, hT⟩

theorem J_addTask (hfl : l.stackTraces = false) (hJ : Jr r0 wx wm) (m r d p : Int32) : ∃ Φ Ψ, Can l yX7_addTask wsX7_addTask 14 4 24 [.ref 0, .int m, .int r, .int d, .int p] wx Φ ∧ Can l yX8_addTask wsX8_addTask 2 0 0 [.ref 0, .int m, .int r, .int d, .int p] wm Ψ ∧ ShI ["java/lang/IndexOutOfBoundsException", "java/lang/IllegalArgumentException", "java/lang/IllegalStateException"] Φ ∧ JoinI ["java/lang/IndexOutOfBoundsException", "java/lang/IllegalArgumentException", "java/lang/IllegalStateException"] Φ Ψ := by
  obtain ⟨S, mc, L, N, tx, hI, hM, hF, hL, hT⟩ := hJ
  have hok := hF.1
  have hn := hok.1
  refine ⟨_, _, f_addTask hfl hok hL hI m r d p, r_addTask hfl hok hL hM m r d p, (fun o w h => by
    rcases h with ⟨e, _⟩ | ⟨_, e, _⟩
    · exact Refd.sh e
    · exact Or.inl ⟨_, e⟩), ?_⟩
  rintro o wx o2 wm hc ⟨v, rfl, hp⟩
  rcases hc with ⟨h1, h3⟩ | ⟨h1, h2, h3⟩ <;> rcases hp with ⟨k1, k3⟩ | ⟨k1, k2, k3⟩
  · refine ⟨_, v, rfl, ?_, S, mc, L, N, tx, h3, k3, hF, hL, hT⟩
    rcases h1 with ⟨g1, g2⟩ | ⟨g1, g2⟩ | ⟨g1, g2⟩
    · rw [g1]; exact AgI.e1 g2 rfl
    · rw [g1]; exact AgI.e2 g2 rfl
    · rw [g1]; exact AgI.e3 g2 rfl
  · rcases h1 with ⟨g1, g2⟩ | ⟨g1, g2⟩ | ⟨g1, g2⟩ <;> (rw [g1] at k1; cases k1)
  · exact absurd h1 k1
  · obtain ⟨m', r', d', p', rfl, rfl, rfl, rfl, km, kr, kd, kp1, kp, k8⟩ := fAdd_0 hok.2.2.1 h1
    have hmc := hok.2.2.1
    rw [cl (by omega), cl (by omega), cl (by omega), cl (by omega)] at h3 k3
    exact ⟨0, v, rfl, AgI.ok h2 rfl k2.symm, _, mc, svP L (mc, S), N, tx, h3, k3, Fine_add hF k8 km kr kd kp1 kp, hL.push hF, hT⟩

theorem J_setDates (hfl : l.stackTraces = false) (hJ : Jr r0 wx wm) (t r d : Int32) : ∃ Φ Ψ, Can l yX7_setDates wsX7_setDates 14 4 24 [.ref 0, .int t, .int r, .int d] wx Φ ∧ Can l yX8_setDates wsX8_setDates 1 0 0 [.ref 0, .int t, .int r, .int d] wm Ψ ∧ ShI ["java/lang/IndexOutOfBoundsException", "java/lang/IllegalArgumentException"] Φ ∧ JoinI ["java/lang/IndexOutOfBoundsException", "java/lang/IllegalArgumentException"] Φ Ψ := by
  obtain ⟨S, mc, L, N, tx, hI, hM, hF, hL, hT⟩ := hJ
  have hok := hF.1
  have hn := hok.1
  refine ⟨_, _, f_setDates hfl hok hL hI t r d, r_setDates hfl hok hL hM t r d, (fun o w h => by
    rcases h with ⟨_, e, _⟩ | ⟨_, _, e, _⟩ | ⟨_, _, e, _⟩
    · exact Or.inr ⟨_, by simp, e⟩
    · exact Or.inr ⟨_, by simp, e⟩
    · exact Or.inl ⟨_, e⟩), ?_⟩
  rintro o wx o2 wm hc ⟨q, v, rfl, hp⟩
  rcases hc with ⟨h1, h2, h3⟩ | ⟨h1, h2, h4, h3⟩ | ⟨h1, h2, h4, h3⟩ <;> rcases hp with ⟨k1, k2, k3⟩ | ⟨k1, k2, k4, k3⟩ | ⟨k1, k2, k4, k5, k3⟩
  · exact ⟨q, v, rfl, AgI.e1 h2 k2, S, mc, L, N, tx, h3, k3, hF, hL, hT⟩
  · rw [h1] at k1; cases k1
  · rw [h1] at k1; cases k1
  · rw [h1] at k1; cases k1
  · exact ⟨q, v, rfl, AgI.e2 h4 k4, S, mc, L, N, tx, h3, k3, hF, hL, hT⟩
  · exact absurd k2 h2
  · rw [h1] at k1; cases k1
  · exact absurd h2 k2
  · obtain ⟨r', kr, rfl⟩ := nI_of (x := r) (Int32.not_lt.mpr h2.1.1)
    obtain ⟨d', kd, rfl⟩ := nI_of (x := d) (Int32.not_lt.mpr (Int32.le_trans (by decide) h2.2.1))
    have b1 := (nI_leI (b := 200) kr (by omega)).mp h2.1.2
    have b3 := (nI_leI (b := 400) kd (by omega)).mp h2.2.2
    rw [cl (n := r') (by omega), cl (n := d') (by omega)] at h3 k3
    exact ⟨q, v, rfl, AgI.ok h4 k4 k5.symm, _, mc, svP L (mc, S), N, tx, h3, k3, Fine_dates hF b1 b3, hL.push hF, hT⟩

theorem J_give (hfl : l.stackTraces = false) (hJ : Jr r0 wx wm) (a b : Int32) (q : Bool) : ∃ Φ Ψ, Can l yX7_give wsX7_give 14 4 24 [.ref 0, .int a, .int b, .int (zb q)] wx Φ ∧ Can l yX8_give wsX8_give 3 0 0 [.ref 0, .int a, .int b, .int (zb q)] wm Ψ ∧ ShI ["java/lang/IndexOutOfBoundsException", "java/lang/IllegalArgumentException", "java/lang/IllegalStateException"] Φ ∧ JoinI ["java/lang/IndexOutOfBoundsException", "java/lang/IllegalArgumentException", "java/lang/IllegalStateException"] Φ Ψ := by
  obtain ⟨S, mc, L, N, tx, hI, hM, hF, hL, hT⟩ := hJ
  have hok := hF.1
  have hn := hok.1
  refine ⟨_, _, f_give hfl hok hL hI a b q, r_give hfl hok hL hM a b q, (fun o w h => by
    rcases h with ⟨e, _⟩ | ⟨_, e, _⟩
    · exact Refd.sh e
    · exact Or.inl ⟨_, e⟩), ?_⟩
  rintro o wx o2 wm hc ⟨v, rfl, hp⟩
  rcases hc with ⟨h1, h3⟩ | ⟨h1, h2, h3⟩ <;> rcases hp with ⟨k1, k3⟩ | ⟨k1, k2, k3⟩
  · refine ⟨_, v, rfl, ?_, S, mc, L, N, tx, h3, k3, hF, hL, hT⟩
    rcases h1 with ⟨g1, g2⟩ | ⟨g1, g2⟩ | ⟨g1, g2⟩
    · rw [g1]; exact AgI.e1 g2 rfl
    · rw [g1]; exact AgI.e2 g2 rfl
    · rw [g1]; exact AgI.e3 g2 rfl
  · rcases h1 with ⟨g1, g2⟩ | ⟨g1, g2⟩ | ⟨g1, g2⟩ <;> (rw [g1] at k1; cases k1)
  · exact absurd h1 k1
  · obtain ⟨i, j, hi, hj, rfl, rfl, hij, hrr⟩ := fG_0 hn h1
    rw [cl (by omega), cl (by omega)] at h2 h3 k2 k3
    exact ⟨0, v, rfl, AgI.ok h2 rfl k2.symm, _, mc, svP L (mc, S), N, tx, h3, k3, Fine_give hF hi hj (fun e => ⟨hij, hrr e⟩), hL.push hF, hT⟩

theorem J_giveDominance (hfl : l.stackTraces = false) (hJ : Jr r0 wx wm) : ∃ Φ Ψ, Can l yX7_giveDominance wsX7_giveDominance 14 4 24 [.ref 0] wx Φ ∧ Can l yX8_giveDominance wsX8_giveDominance 3 0 0 [.ref 0] wm Ψ ∧ ShI [] Φ ∧ JoinI [] Φ Ψ := by
  obtain ⟨S, mc, L, N, tx, hI, hM, hF, hL, hT⟩ := hJ
  have hok := hF.1
  have hn := hok.1
  refine ⟨_, _, f_giveDominance hfl hF hL hI, r_giveDominance hfl hF hL hM, (fun o w h => Or.inl ⟨_, h.1⟩), ?_⟩
  rintro o wx o2 wm ⟨rfl, h3⟩ ⟨rfl, k3⟩
  exact ⟨0, _, rfl, AgI.ok rfl rfl rfl, _, mc, svP L (mc, S), N, tx, h3, k3, (gdA_ok hF (tn S) (Nat.le_refl _)).1, hL.push hF, hT⟩

theorem J_undo (hfl : l.stackTraces = false) (hJ : Jr r0 wx wm) : ∃ Φ Ψ, Can l yX7_undo wsX7_undo 14 4 24 [.ref 0] wx Φ ∧ Can l yX8_undo wsX8_undo 1 0 0 [.ref 0] wm Ψ ∧ ShI ["java/lang/IllegalStateException"] Φ ∧ JoinI ["java/lang/IllegalStateException"] Φ Ψ := by
  obtain ⟨S, mc, L, N, tx, hI, hM, hF, hL, hT⟩ := hJ
  have hok := hF.1
  have hn := hok.1
  refine ⟨_, _, f_undo hfl hL hI, r_undo hfl hL hM, (fun o w h => by
    rcases h with ⟨_, e, _⟩ | ⟨_, _, _, e, _⟩
    · exact Or.inr ⟨_, by simp, e⟩
    · exact Or.inl ⟨_, e⟩), ?_⟩
  rintro o wx o2 wm hc ⟨r, v, rfl, hp⟩
  rcases hc with ⟨h1, h2, h3⟩ | ⟨L0, x, h1, h2, h3⟩ <;> rcases hp with ⟨k1, k2, k3⟩ | ⟨k0, L1, y, k1, k2, k3⟩
  · exact ⟨r, v, rfl, AgI.e1 h2 k2, S, mc, L, N, tx, h3, k3, hF, hL, hT⟩
  · rw [h1] at k1; cases L1 <;> cases k1
  · rw [k1] at h1; cases L0 <;> cases h1
  · obtain ⟨rfl, e⟩ := List.append_inj' (h1.symm.trans k1) rfl
    cases e
    refine ⟨r, v, rfl, AgI.ok h2 k0 k2.symm, x.2, x.1, L0, N, tx, h3, k3, hL.2 x (by rw [h1]; exact List.mem_append_right _ (List.mem_singleton.mpr rfl)), ⟨?_, fun z hz => hL.2 z (by rw [h1]; exact List.mem_append_left _ hz)⟩, hT⟩
    have := hL.1
    rw [h1, List.length_append] at this
    omega

theorem J_clearText (hfl : l.stackTraces = false) (hJ : Jr r0 wx wm) : ∃ Φ Ψ, Can l yX7_clearText wsX7_clearText 14 4 24 [.ref 0] wx Φ ∧ Can l yX8_clearText wsX8_clearText 0 0 0 [.ref 0] wm Ψ ∧ ShI [] Φ ∧ JoinI [] Φ Ψ := by
  obtain ⟨S, mc, L, N, tx, hI, hM, hF, hL, hT⟩ := hJ
  have hok := hF.1
  have hn := hok.1
  refine ⟨_, _, f_clearText hfl hI, r_clearText hfl hM, (fun o w h => Or.inl ⟨_, h.1⟩), ?_⟩
  rintro o wx o2 wm ⟨rfl, h3⟩ ⟨rfl, k3⟩
  exact ⟨0, _, rfl, AgI.ok rfl rfl rfl, S, mc, L, 0, tx, h3, k3, hF, hL, ⟨Nat.zero_le _, fun k hk => absurd hk (Nat.not_lt_zero _)⟩⟩

theorem J_append (hfl : l.stackTraces = false) (hJ : Jr r0 wx wm) (x : Int32) : ∃ Φ Ψ, Can l yX7_append wsX7_append 14 4 24 [.ref 0, .int x] wx Φ ∧ Can l yX8_append wsX8_append 1 0 0 [.ref 0, .int x] wm Ψ ∧ ShI ["java/lang/IllegalArgumentException", "java/lang/IllegalStateException"] Φ ∧ JoinI ["java/lang/IllegalArgumentException", "java/lang/IllegalStateException"] Φ Ψ := by
  obtain ⟨S, mc, L, N, tx, hI, hM, hF, hL, hT⟩ := hJ
  have hok := hF.1
  have hn := hok.1
  refine ⟨_, _, f_append hfl hT hI x, r_append hfl hT hM x, (fun o w h => by
    rcases h with ⟨_, e, _⟩ | ⟨_, _, e, _⟩ | ⟨_, _, e, _⟩
    · exact Or.inr ⟨_, by simp, e⟩
    · exact Or.inr ⟨_, by simp, e⟩
    · exact Or.inl ⟨_, e⟩), ?_⟩
  rintro o wx o2 wm hc ⟨r, v, rfl, hp⟩
  rcases hc with ⟨h1, h2, h3⟩ | ⟨h1, h4, h2, h3⟩ | ⟨h1, h4, h2, h3⟩ <;> rcases hp with ⟨k1, k2, k3⟩ | ⟨k1, k4, k2, k3⟩ | ⟨k1, k4, k2, k5, k3⟩
  · exact ⟨r, v, rfl, AgI.e1 h2 k2, S, mc, L, N, tx, h3, k3, hF, hL, hT⟩
  · exact absurd (of_decide_eq_true k1) h1
  · exact absurd (of_decide_eq_true k1) h1
  · exact absurd h1 (of_decide_eq_false k1)
  · exact ⟨r, v, rfl, AgI.e2 h2 k2, S, mc, L, N, tx, h3, k3, hF, hL, hT⟩
  · omega
  · exact absurd h1 (of_decide_eq_false k1)
  · omega
  · obtain ⟨k, kk, rfl⟩ := nI_of (x := x) (Int32.not_lt.mpr h1.1)
    have b1 := (nI_leI (b := 127) kk (by omega)).mp h1.2
    rw [cl (by omega)] at h3
    exact ⟨r, v, rfl, AgI.ok h2 k2 k5.symm, S, mc, L, N + 1, _, h3, k3 k kk rfl, hF, hL, TxOk_put hT h4 b1⟩

theorem J_carryOut (hfl : l.stackTraces = false) (hJ : Jr r0 wx wm) : ∃ Φ Ψ, Can l yX7_carryOut wsX7_carryOut 14 4 24 [.ref 0] wx Φ ∧ Can l yX8_carryOut wsX8_carryOut 5 0 0 [.ref 0] wm Ψ ∧ ShI [] Φ ∧ JoinI [] Φ Ψ := by
  obtain ⟨S, mc, L, N, tx, hI, hM, hF, hL, hT⟩ := hJ
  have hok := hF.1
  have hn := hok.1
  refine ⟨_, _, f_carryOut hfl hF hL hT hI, r_carryOut hfl hF hL hT hM, (fun o w h => by
    rcases h with ⟨_, e, _⟩ | ⟨_, e, _⟩
    · exact Or.inl ⟨_, e⟩
    · exact Or.inl ⟨_, e⟩), ?_⟩
  rintro o wx o2 wm hc hp
  rcases hc with ⟨h1, rfl, h3⟩ | ⟨h1, rfl, h3⟩ <;> rcases hp with ⟨k1, rfl, k3⟩ | ⟨k1, rfl, k3⟩
  · exact ⟨0, _, rfl, AgI.ok rfl rfl rfl, S, mc, L, N, tx, h3, k3, hF, hL, hT⟩
  · exact absurd k1 h1
  · exact absurd h1 k1
  · exact ⟨0, _, rfl, AgI.ok rfl rfl rfl, _, mc, svP L (mc, S), N, tx, h3, k3, (doO_ok _ _ hF (rdL_ord _ _)).1, hL.push hF, hT⟩

theorem J_decided (hfl : l.stackTraces = false) (hJ : Jr r0 wx wm) : ∃ Φ Ψ, Can l yX7_decided wsX7_decided 14 4 24 [.ref 0] wx Φ ∧ Can l yX8_decided wsX8_decided 3 0 0 [.ref 0] wm Ψ ∧ ShD Φ ∧ JoinD Φ Ψ := by
  obtain ⟨S, mc, L, N, tx, hI, hM, hF, hL, hT⟩ := hJ
  have hok := hF.1
  have hn := hok.1
  refine ⟨_, _, f_decided hfl hok hI, r_decided hfl hok hM, (fun o w h => by
    rcases h.2 with ⟨_, e⟩ | ⟨_, _, _, _, e⟩
    · exact Or.inr e
    · exact Or.inl ⟨_, e⟩), ?_⟩
  rintro o wx o2 wm ⟨hI', hc⟩ ⟨r, v, rfl, hM', hp⟩
  have hj : Jr r wx wm := ⟨S, mc, L, N, tx, hI', hM', hF, hL, hT⟩
  refine ⟨r, v, rfl, ?_, hj⟩
  rcases hc with ⟨h1, h2⟩ | ⟨F, H, B, h1, h2⟩ <;> rcases hp with ⟨k1, k2⟩ | ⟨k1, F', H', B', k2, k3⟩
  · exact Or.inr ⟨h2, k2⟩
  · exact absurd (RLeast_good k2) h1
  · exact absurd (RLeast_good h1) k1
  · exact Or.inl ⟨by rw [h2, k3, nOpen_eq h1 k2], k1⟩

theorem J_digest (hfl : l.stackTraces = false) (hJ : Jr r0 wx wm) : ∃ Φ Ψ, Can l yX7_digest wsX7_digest 14 4 24 [.ref 0] wx Φ ∧ Can l yX8_digest wsX8_digest 4 0 0 [.ref 0] wm Ψ ∧ ShJ Φ ∧ JoinJ Φ Ψ := by
  obtain ⟨S, mc, L, N, tx, hI, hM, hF, hL, hT⟩ := hJ
  have hok := hF.1
  have hn := hok.1
  refine ⟨_, _, f_digest hfl hok hI, r_digest hfl hok hM, (fun o w h => by
    obtain ⟨_, v, e, _⟩ := h
    exact ⟨_, e⟩), ?_⟩
  rintro o wx o2 wm ⟨hI', v, rfl, hv⟩ ⟨v', rfl, hM', hv'⟩
  exact ⟨v', rfl, by rw [DigR_uniq hv hv'], S, mc, L, N, tx, hI', hM', hF, hL, hT⟩

end JJ
