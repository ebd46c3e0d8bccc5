/-! THE REFERENCE, from state to state -/
section RR
/-- a world of the reference in a state: its tasks, machines, saved states, text; thrown -/
def MoA (S : TS) (mc : Nat) (L : List (Nat × TS)) (N : Nat) (tx : Nat → Nat) (th : Int32) (w : zW) : Prop := ∃ (ixa wr om : Int32) (db : Int64) (fs ftx fo : Nat → Int32), IsMo S mc (nI L.length) (nI N) ixa wr om db fs ftx fo th w ∧ SvR L fs ∧ ∀ k, k < N → ftx k = nI (tx k)
variable {l : Launch} {S : TS} {mc : Nat} {L : List (Nat × TS)} {N : Nat} {tx : Nat → Nat} {th : Int32} {w : zW}

theorem r_firstStart (hfl : l.stackTraces = false) (hok : TSok S mc) (h : MoA S mc L N tx th w) (t : Int32) : Can l yX8_firstStart wsX8_firstStart 4 0 0 [.ref 0, .int t] w (fun o w' => ∃ r v, o = .inl (some (.int v)) ∧ MoA S mc L N tx r w' ∧ (Ans S (tIs S t) (fun F L B v => v = iI (F t.toNatClampNeg)) r v)) := by
  obtain ⟨ixa, wr, om, db, fs, ftx, fo, ⟨ch, fm, fr, fd, fp, fg, fF, fL, fA, sF, sL, sW, fO, rw, br, st, bs, du, rfl, hM⟩, hS, hT⟩ := h
  refine Can.mono (m_firstStart hfl hok hM t) ?_
  rintro o w' ⟨r, v, rfl, hI, hp⟩
  exact ⟨r, v, rfl, ⟨ixa, wr, om, db, fs, ftx, fo, hI, hS, hT⟩, hp⟩

theorem r_lastEnd (hfl : l.stackTraces = false) (hok : TSok S mc) (h : MoA S mc L N tx th w) (t : Int32) : Can l yX8_lastEnd wsX8_lastEnd 4 0 0 [.ref 0, .int t] w (fun o w' => ∃ r v, o = .inl (some (.int v)) ∧ MoA S mc L N tx r w' ∧ (Ans S (tIs S t) (fun F L B v => v = iI (L t.toNatClampNeg)) r v)) := by
  obtain ⟨ixa, wr, om, db, fs, ftx, fo, ⟨ch, fm, fr, fd, fp, fg, fF, fL, fA, sF, sL, sW, fO, rw, br, st, bs, du, rfl, hM⟩, hS, hT⟩ := h
  refine Can.mono (m_lastEnd hfl hok hM t) ?_
  rintro o w' ⟨r, v, rfl, hI, hp⟩
  exact ⟨r, v, rfl, ⟨ixa, wr, om, db, fs, ftx, fo, hI, hS, hT⟩, hp⟩

theorem r_slack (hfl : l.stackTraces = false) (hok : TSok S mc) (h : MoA S mc L N tx th w) (t : Int32) : Can l yX8_slack wsX8_slack 4 0 0 [.ref 0, .int t] w (fun o w' => ∃ r v, o = .inl (some (.int v)) ∧ MoA S mc L N tx r w' ∧ (Ans S (tIs S t) (fun F L B v => v = iI (L t.toNatClampNeg - F t.toNatClampNeg - (tP S t.toNatClampNeg : Int))) r v)) := by
  obtain ⟨ixa, wr, om, db, fs, ftx, fo, ⟨ch, fm, fr, fd, fp, fg, fF, fL, fA, sF, sL, sW, fO, rw, br, st, bs, du, rfl, hM⟩, hS, hT⟩ := h
  refine Can.mono (m_slack hfl hok hM t) ?_
  rintro o w' ⟨r, v, rfl, hI, hp⟩
  exact ⟨r, v, rfl, ⟨ixa, wr, om, db, fs, ftx, fo, hI, hS, hT⟩, hp⟩

theorem r_precedes (hfl : l.stackTraces = false) (hok : TSok S mc) (h : MoA S mc L N tx th w) (a b : Int32) : Can l yX8_precedes wsX8_precedes 4 0 0 [.ref 0, .int a, .int b] w (fun o w' => ∃ r v, o = .inl (some (.int v)) ∧ MoA S mc L N tx r w' ∧ (Ans S (tIs S a && tIs S b) (fun _ _ B v => v = zb (decide (a ≠ b) && (B a.toNatClampNeg).testBit b.toNatClampNeg)) r v)) := by
  obtain ⟨ixa, wr, om, db, fs, ftx, fo, ⟨ch, fm, fr, fd, fp, fg, fF, fL, fA, sF, sL, sW, fO, rw, br, st, bs, du, rfl, hM⟩, hS, hT⟩ := h
  refine Can.mono (m_precedes hfl hok hM a b) ?_
  rintro o w' ⟨r, v, rfl, hI, hp⟩
  exact ⟨r, v, rfl, ⟨ixa, wr, om, db, fs, ftx, fo, hI, hS, hT⟩, hp⟩

theorem r_because (hfl : l.stackTraces = false) (hok : TSok S mc) (h : MoA S mc L N tx th w) (a b : Int32) : Can l yX8_because wsX8_because 4 0 0 [.ref 0, .int a, .int b] w (fun o w' => ∃ r v, o = .inl (some (.int v)) ∧ MoA S mc L N tx r w' ∧ (Ans S (tIs S a && tIs S b) (fun F L _ v => ∃ q, v = iI q ∧ LsR S F L a.toNatClampNeg b.toNatClampNeg q) r v)) := by
  obtain ⟨ixa, wr, om, db, fs, ftx, fo, ⟨ch, fm, fr, fd, fp, fg, fF, fL, fA, sF, sL, sW, fO, rw, br, st, bs, du, rfl, hM⟩, hS, hT⟩ := h
  refine Can.mono (m_because hfl hok hM a b) ?_
  rintro o w' ⟨r, v, rfl, hI, hp⟩
  exact ⟨r, v, rfl, ⟨ixa, wr, om, db, fs, ftx, fo, hI, hS, hT⟩, hp⟩

theorem r_why (hfl : l.stackTraces = false) (hok : TSok S mc) (h : MoA S mc L N tx th w) (a b : Int32) : Can l yX8_why wsX8_why 4 0 0 [.ref 0, .int a, .int b] w (fun o w' => ∃ r v, o = .inl (some (.int v)) ∧ MoA S mc L N tx r w' ∧ (Ans S (tIs S a && tIs S b) (fun F L B v => ∃ q, v = iI q ∧ ((∃ q, LsR S F L a.toNatClampNeg b.toNatClampNeg q) → WhR S F L B a.toNatClampNeg b.toNatClampNeg q)) r v)) := by
  obtain ⟨ixa, wr, om, db, fs, ftx, fo, ⟨ch, fm, fr, fd, fp, fg, fF, fL, fA, sF, sL, sW, fO, rw, br, st, bs, du, rfl, hM⟩, hS, hT⟩ := h
  refine Can.mono (m_why hfl hok hM a b) ?_
  rintro o w' ⟨r, v, rfl, hI, hp⟩
  exact ⟨r, v, rfl, ⟨ixa, wr, om, db, fs, ftx, fo, hI, hS, hT⟩, hp⟩

theorem r_dominates (hfl : l.stackTraces = false) (hok : TSok S mc) (h : MoA S mc L N tx th w) (a b : Int32) : Can l yX8_dominates wsX8_dominates 3 0 0 [.ref 0, .int a, .int b] w (fun o w' => ∃ r v, o = .inl (some (.int v)) ∧ MoA S mc L N tx r w' ∧ (((tIs S a && tIs S b) = false ∧ r = 1) ∨ ((tIs S a && tIs S b) = true ∧ r = 0 ∧ v = zb (domB S a.toNatClampNeg b.toNatClampNeg)))) := by
  obtain ⟨ixa, wr, om, db, fs, ftx, fo, ⟨ch, fm, fr, fd, fp, fg, fF, fL, fA, sF, sL, sW, fO, rw, br, st, bs, du, rfl, hM⟩, hS, hT⟩ := h
  refine Can.mono (m_dominates hfl hok hM a b) ?_
  rintro o w' ⟨r, v, rfl, hI, hp⟩
  exact ⟨r, v, rfl, ⟨ixa, wr, om, db, fs, ftx, fo, hI, hS, hT⟩, hp⟩

theorem r_refutes (hfl : l.stackTraces = false) (hok : TSok S mc) (h : MoA S mc L N tx th w) (a b : Int32) : Can l yX8_refutes wsX8_refutes 3 0 0 [.ref 0, .int a, .int b] w (fun o w' => ∃ r v, o = .inl (some (.int v)) ∧ MoA S mc L N tx r w' ∧ (((tIs S a && tIs S b) = false ∧ r = 1) ∨ ((tIs S a && tIs S b) = true ∧ r = 0 ∧ ((a = b ∧ v = 1) ∨ (a ≠ b ∧ RGood (tsGive S a.toNatClampNeg b.toNatClampNeg true) ∧ v = 0) ∨ (a ≠ b ∧ ¬ RGood (tsGive S a.toNatClampNeg b.toNatClampNeg true) ∧ v = 1))))) := by
  obtain ⟨ixa, wr, om, db, fs, ftx, fo, ⟨ch, fm, fr, fd, fp, fg, fF, fL, fA, sF, sL, sW, fO, rw, br, st, bs, du, rfl, hM⟩, hS, hT⟩ := h
  refine Can.mono (m_refutes hfl hok hM a b) ?_
  rintro o w' ⟨r, v, rfl, hI, hp⟩
  exact ⟨r, v, rfl, ⟨ixa, wr, om, db, fs, ftx, fo, hI, hS, hT⟩, hp⟩

theorem r_leastDue (hfl : l.stackTraces = false) (hok : TSok S mc) (h : MoA S mc L N tx th w) (t : Int32) : Can l yX8_leastDue wsX8_leastDue 3 0 0 [.ref 0, .int t] w (fun o w' => ∃ r v, o = .inl (some (.int v)) ∧ MoA S mc L N tx r w' ∧ ((tIs S t = false ∧ r = 1) ∨ (tIs S t = true ∧ r = 0 ∧ LeastR (fun d => RGood (tsDue S t.toNatClampNeg d)) 1 v))) := by
  obtain ⟨ixa, wr, om, db, fs, ftx, fo, ⟨ch, fm, fr, fd, fp, fg, fF, fL, fA, sF, sL, sW, fO, rw, br, st, bs, du, rfl, hM⟩, hS, hT⟩ := h
  refine Can.mono (m_leastDue hfl hok hM t) ?_
  rintro o w' ⟨r, v, rfl, hI, hp⟩
  exact ⟨r, v, rfl, ⟨ixa, wr, om, db, fs, ftx, fo, hI, hS, hT⟩, hp⟩

theorem r_task (hfl : l.stackTraces = false) (hok : TSok S mc) (h : MoA S mc L N tx th w) (t x : Int32) : Can l yX8_task wsX8_task 2 0 0 [.ref 0, .int t, .int x] w (fun o w' => ∃ r v, o = .inl (some (.int v)) ∧ MoA S mc L N tx r w' ∧ ((tIs S t = false ∧ r = 1) ∨ (tIs S t = true ∧ ¬ (0 ≤ x ∧ x ≤ 5) ∧ r = 2) ∨ (tIs S t = true ∧ r = 0 ∧ ∃ q, x = nI q ∧ q < 6 ∧ v = nI (aspN S t.toNatClampNeg q)))) := by
  obtain ⟨ixa, wr, om, db, fs, ftx, fo, ⟨ch, fm, fr, fd, fp, fg, fF, fL, fA, sF, sL, sW, fO, rw, br, st, bs, du, rfl, hM⟩, hS, hT⟩ := h
  refine Can.mono (m_task hfl hok hM t x) ?_
  rintro o w' ⟨r, v, rfl, hI, hp⟩
  exact ⟨r, v, rfl, ⟨ixa, wr, om, db, fs, ftx, fo, hI, hS, hT⟩, hp⟩

theorem r_inBest (hfl : l.stackTraces = false) (hok : TSok S mc) (h : MoA S mc L N tx th w) (t x : Int32) : Can l yX8_inBest wsX8_inBest 4 0 0 [.ref 0, .int t, .int x] w (fun o w' => ∃ r v, o = .inl (some (.int v)) ∧ MoA S mc L N tx r w' ∧ ((tIs S t = false ∧ r = 1) ∨ (tIs S t = true ∧ ¬ (0 ≤ x ∧ x ≤ 1) ∧ r = 2) ∨ (tIs S t = true ∧ (0 ≤ x ∧ x ≤ 1) ∧ r = 0 ∧ ∃ vb β, BestOf S (fun _ => True) vb β ∧ ((vb = -1 ∧ v = -1) ∨ (vb ≠ -1 ∧ ∃ j, j < tn S ∧ β j = t.toNatClampNeg ∧ ((x = 0 ∧ v = nI j) ∨ (x ≠ 0 ∧ v = nI (stA S β (tn S) t.toNatClampNeg)))))))) := by
  obtain ⟨ixa, wr, om, db, fs, ftx, fo, ⟨ch, fm, fr, fd, fp, fg, fF, fL, fA, sF, sL, sW, fO, rw, br, st, bs, du, rfl, hM⟩, hS, hT⟩ := h
  refine Can.mono (m_inBest hfl hok hM t x) ?_
  rintro o w' ⟨r, v, rfl, hI, hp⟩
  exact ⟨r, v, rfl, ⟨ixa, wr, om, db, fs, ftx, fo, hI, hS, hT⟩, hp⟩

theorem r_drawn (hfl : l.stackTraces = false) (hF : Fine S mc) (h : MoA S mc L N tx th w) (s c : Int32) : Can l yX8_drawn wsX8_drawn 4 0 0 [.ref 0, .int s, .int c] w (fun o w' => ∃ r v, o = .inl (some (.int v)) ∧ MoA S mc L N tx r w' ∧ ((¬ ((0 ≤ s ∧ s ≤ 999999) ∧ 1 ≤ c ∧ c ≤ 50) ∧ r = 1) ∨ (((0 ≤ s ∧ s ≤ 999999) ∧ 1 ≤ c ∧ c ≤ 50) ∧ r = 0 ∧ v = iI (dMs S s.toNatClampNeg c.toNatClampNeg).2))) := by
  obtain ⟨ixa, wr, om, db, fs, ftx, fo, ⟨ch, fm, fr, fd, fp, fg, fF, fL, fA, sF, sL, sW, fO, rw, br, st, bs, du, rfl, hM⟩, hS, hT⟩ := h
  refine Can.mono (m_drawn hfl hF hM s c) ?_
  rintro o w' ⟨r, v, db', rfl, hI, hp⟩
  exact ⟨r, v, rfl, ⟨ixa, wr, om, db', fs, ftx, fo, hI, hS, hT⟩, hp⟩

theorem r_makespan (hfl : l.stackTraces = false) (hok : TSok S mc) (h : MoA S mc L N tx th w) : Can l yX8_makespan wsX8_makespan 4 0 0 [.ref 0] w (fun o w' => ∃ v β, o = .inl (some (.int (iI v))) ∧ MoA S mc L N tx 0 w' ∧ BestOf S (fun _ => True) v β) := by
  obtain ⟨ixa, wr, om, db, fs, ftx, fo, ⟨ch, fm, fr, fd, fp, fg, fF, fL, fA, sF, sL, sW, fO, rw, br, st, bs, du, rfl, hM⟩, hS, hT⟩ := h
  refine Can.mono (m_makespan hfl hok hM) ?_
  rintro o w' ⟨v, β, rfl, hI, hp⟩
  exact ⟨v, β, rfl, ⟨ixa, wr, om, db, fs, ftx, fo, hI, hS, hT⟩, hp⟩

theorem r_lowerBound (hfl : l.stackTraces = false) (hok : TSok S mc) (h : MoA S mc L N tx th w) : Can l yX8_lowerBound wsX8_lowerBound 3 0 0 [.ref 0] w (fun o w' => ∃ v, o = .inl (some (.int v)) ∧ MoA S mc L N tx 0 w' ∧ LeastR (fun d => RGood (tsCap S d)) 0 v) := by
  obtain ⟨ixa, wr, om, db, fs, ftx, fo, ⟨ch, fm, fr, fd, fp, fg, fF, fL, fA, sF, sL, sW, fO, rw, br, st, bs, du, rfl, hM⟩, hS, hT⟩ := h
  refine Can.mono (m_lowerBound hfl hok hM) ?_
  rintro o w' ⟨v, rfl, hI, hp⟩
  exact ⟨v, rfl, ⟨ixa, wr, om, db, fs, ftx, fo, hI, hS, hT⟩, hp⟩

theorem r_decided (hfl : l.stackTraces = false) (hok : TSok S mc) (h : MoA S mc L N tx th w) : Can l yX8_decided wsX8_decided 3 0 0 [.ref 0] w (fun o w' => ∃ r v, o = .inl (some (.double v)) ∧ MoA S mc L N tx r w' ∧ ((¬ RGood S ∧ r = 1) ∨ (r = 0 ∧ ∃ F L B, RLeast S F L B ∧ v = decV (nPairs S) (nOpen S B)))) := by
  obtain ⟨ixa, wr, om, db, fs, ftx, fo, ⟨ch, fm, fr, fd, fp, fg, fF, fL, fA, sF, sL, sW, fO, rw, br, st, bs, du, rfl, hM⟩, hS, hT⟩ := h
  refine Can.mono (m_decided hfl hok hM) ?_
  rintro o w' ⟨r, v, rfl, hI, hp⟩
  exact ⟨r, v, rfl, ⟨ixa, wr, om, db, fs, ftx, fo, hI, hS, hT⟩, hp⟩

theorem r_digest (hfl : l.stackTraces = false) (hok : TSok S mc) (h : MoA S mc L N tx th w) : Can l yX8_digest wsX8_digest 4 0 0 [.ref 0] w (fun o w' => ∃ v, o = .inl (some (.long v)) ∧ MoA S mc L N tx 0 w' ∧ DigR S mc N L v) := by
  obtain ⟨ixa, wr, om, db, fs, ftx, fo, ⟨ch, fm, fr, fd, fp, fg, fF, fL, fA, sF, sL, sW, fO, rw, br, st, bs, du, rfl, hM⟩, hS, hT⟩ := h
  refine Can.mono (m_digest hfl hok hM) ?_
  rintro o w' ⟨v, rfl, hI, hp⟩
  exact ⟨v, rfl, ⟨ixa, wr, om, db, fs, ftx, fo, hI, hS, hT⟩, hp⟩

theorem r_begin (hfl : l.stackTraces = false) (hok : TSok S mc) (hL : SvOk L) (h : MoA S mc L N tx th w) (m : Int32) : Can l yX8_begin wsX8_begin 1 0 0 [.ref 0, .int m] w (fun o w' => ∃ r v, o = .inl (some (.int v)) ∧ ((¬ (1 ≤ m ∧ m ≤ 3) ∧ r = 1 ∧ MoA S mc L N tx r w') ∨ ((1 ≤ m ∧ m ≤ 3) ∧ r = 0 ∧ v = nI (tn S) ∧ MoA tsNone m.toNatClampNeg (svP L (mc, S)) N tx r w'))) := by
  obtain ⟨ixa, wr, om, db, fs, ftx, fo, ⟨ch, fm, fr, fd, fp, fg, fF, fL, fA, sF, sL, sW, fO, rw, br, st, bs, du, rfl, hM⟩, hS, hT⟩ := h
  refine Can.mono (m_begin hfl hok.1 hM hS hL m) ?_
  rintro o w' ⟨r, v, rfl, ⟨h1, h2, h3⟩ | ⟨h1, h2, h3, fs', h4, h5⟩⟩
  · exact ⟨r, v, rfl, Or.inl ⟨h1, h2, ixa, wr, om, db, fs, ftx, fo, h3, hS, hT⟩⟩
  · exact ⟨r, v, rfl, Or.inr ⟨h1, h2, h3, ixa, wr, om, db, fs', ftx, fo, h5, h4, hT⟩⟩
theorem r_addTask (hfl : l.stackTraces = false) (hok : TSok S mc) (hL : SvOk L) (h : MoA S mc L N tx th w) (m r d p : Int32) : Can l yX8_addTask wsX8_addTask 2 0 0 [.ref 0, .int m, .int r, .int d, .int p] w (fun o w' => ∃ v, o = .inl (some (.int v)) ∧ ((fAdd mc (tn S) m r d p ≠ 0 ∧ MoA S mc L N tx (nI (fAdd mc (tn S) m r d p)) w') ∨ (fAdd mc (tn S) m r d p = 0 ∧ v = nI (tn S) ∧ MoA (tsAdd S m.toNatClampNeg r.toNatClampNeg d.toNatClampNeg p.toNatClampNeg) mc (svP L (mc, S)) N tx 0 w'))) := by
  obtain ⟨ixa, wr, om, db, fs, ftx, fo, ⟨ch, fm, fr, fd, fp, fg, fF, fL, fA, sF, sL, sW, fO, rw, br, st, bs, du, rfl, hM⟩, hS, hT⟩ := h
  refine Can.mono (m_addTask hfl hok hM hS hL m r d p) ?_
  rintro o w' ⟨v, rfl, ⟨h1, h3⟩ | ⟨h1, h3, fs', h4, h5⟩⟩
  · exact ⟨v, rfl, Or.inl ⟨h1, ixa, wr, om, db, fs, ftx, fo, h3, hS, hT⟩⟩
  · exact ⟨v, rfl, Or.inr ⟨h1, h3, ixa, wr, om, db, fs', ftx, fo, h5, h4, hT⟩⟩
theorem r_setDates (hfl : l.stackTraces = false) (hok : TSok S mc) (hL : SvOk L) (h : MoA S mc L N tx th w) (t r d : Int32) : Can l yX8_setDates wsX8_setDates 1 0 0 [.ref 0, .int t, .int r, .int d] w (fun o w' => ∃ q v, o = .inl (some (.int v)) ∧ ((tIs S t = false ∧ q = 1 ∧ MoA S mc L N tx q w') ∨ (tIs S t = true ∧ ¬ ((0 ≤ r ∧ r ≤ 200) ∧ 1 ≤ d ∧ d ≤ 400) ∧ q = 2 ∧ MoA S mc L N tx q w') ∨ (tIs S t = true ∧ ((0 ≤ r ∧ r ≤ 200) ∧ 1 ≤ d ∧ d ≤ 400) ∧ q = 0 ∧ v = nI (tD S t.toNatClampNeg) - nI (tR S t.toNatClampNeg) ∧ MoA (tsDates S t.toNatClampNeg r.toNatClampNeg d.toNatClampNeg) mc (svP L (mc, S)) N tx q w'))) := by
  obtain ⟨ixa, wr, om, db, fs, ftx, fo, ⟨ch, fm, fr, fd, fp, fg, fF, fL, fA, sF, sL, sW, fO, rw, br, st, bs, du, rfl, hM⟩, hS, hT⟩ := h
  refine Can.mono (m_setDates hfl hok hM hS hL t r d) ?_
  rintro o w' ⟨q, v, rfl, ⟨h1, h2, h3⟩ | ⟨h1, h2, h4, h3⟩ | ⟨h1, h2, h3, h6, fs', h4, h5⟩⟩
  · exact ⟨q, v, rfl, Or.inl ⟨h1, h2, ixa, wr, om, db, fs, ftx, fo, h3, hS, hT⟩⟩
  · exact ⟨q, v, rfl, Or.inr (Or.inl ⟨h1, h2, h4, ixa, wr, om, db, fs, ftx, fo, h3, hS, hT⟩)⟩
  · exact ⟨q, v, rfl, Or.inr (Or.inr ⟨h1, h2, h3, h6, ixa, wr, om, db, fs', ftx, fo, h5, h4, hT⟩)⟩
theorem r_give (hfl : l.stackTraces = false) (hok : TSok S mc) (hL : SvOk L) (h : MoA S mc L N tx th w) (a b : Int32) (q : Bool) : Can l yX8_give wsX8_give 3 0 0 [.ref 0, .int a, .int b, .int (zb q)] w (fun o w' => ∃ v, o = .inl (some (.int v)) ∧ ((fG S a b q ≠ 0 ∧ MoA S mc L N tx (nI (fG S a b q)) w') ∨ (fG S a b q = 0 ∧ v = nI (gMany (tsGive S a.toNatClampNeg b.toNatClampNeg q)) ∧ MoA (tsGive S a.toNatClampNeg b.toNatClampNeg q) mc (svP L (mc, S)) N tx 0 w'))) := by
  obtain ⟨ixa, wr, om, db, fs, ftx, fo, ⟨ch, fm, fr, fd, fp, fg, fF, fL, fA, sF, sL, sW, fO, rw, br, st, bs, du, rfl, hM⟩, hS, hT⟩ := h
  refine Can.mono (m_give hfl hok hM hS hL a b q) ?_
  rintro o w' ⟨v, rfl, ⟨h1, h3⟩ | ⟨h1, h3, fs', h4, h5⟩⟩
  · exact ⟨v, rfl, Or.inl ⟨h1, ixa, wr, om, db, fs, ftx, fo, h3, hS, hT⟩⟩
  · exact ⟨v, rfl, Or.inr ⟨h1, h3, ixa, wr, om, db, fs', ftx, fo, h5, h4, hT⟩⟩
theorem r_giveDominance (hfl : l.stackTraces = false) (hF : Fine S mc) (hL : SvOk L) (h : MoA S mc L N tx th w) : Can l yX8_giveDominance wsX8_giveDominance 3 0 0 [.ref 0] w (fun o w' => o = .inl (some (.int (nI (gdA S (tn S)).2))) ∧ MoA (gdA S (tn S)).1 mc (svP L (mc, S)) N tx 0 w') := by
  obtain ⟨ixa, wr, om, db, fs, ftx, fo, ⟨ch, fm, fr, fd, fp, fg, fF, fL, fA, sF, sL, sW, fO, rw, br, st, bs, du, rfl, hM⟩, hS, hT⟩ := h
  refine Can.mono (m_giveDominance hfl hF hM hS hL) ?_
  rintro o w' ⟨rfl, fs', h4, h5⟩
  exact ⟨rfl, ixa, wr, om, db, fs', ftx, fo, h5, h4, hT⟩
theorem r_undo (hfl : l.stackTraces = false) (hL : SvOk L) (h : MoA S mc L N tx th w) : Can l yX8_undo wsX8_undo 1 0 0 [.ref 0] w (fun o w' => ∃ r v, o = .inl (some (.int v)) ∧ ((L = [] ∧ r = 1 ∧ MoA S mc L N tx r w') ∨ (r = 0 ∧ ∃ L0 x, L = L0 ++ [x] ∧ v = nI L0.length ∧ MoA x.2 x.1 L0 N tx r w'))) := by
  obtain ⟨ixa, wr, om, db, fs, ftx, fo, ⟨ch, fm, fr, fd, fp, fg, fF, fL, fA, sF, sL, sW, fO, rw, br, st, bs, du, rfl, hM⟩, hS, hT⟩ := h
  refine Can.mono (m_undo hfl hM hS hL) ?_
  rintro o w' ⟨r, v, rfl, ⟨h1, h2, h3⟩ | ⟨h1, L0, x, h2, h3, h4⟩⟩
  · exact ⟨r, v, rfl, Or.inl ⟨h1, h2, ixa, wr, om, db, fs, ftx, fo, h3, hS, hT⟩⟩
  · refine ⟨r, v, rfl, Or.inr ⟨h1, L0, x, h2, h3, ixa, wr, om, db, fs, ftx, fo, h4, fun k y hk => hS k y ?_, hT⟩⟩
    rw [h2, List.getElem?_append_left (List.getElem?_eq_some_iff.mp hk).1]
    exact hk
theorem r_clearText (hfl : l.stackTraces = false) (h : MoA S mc L N tx th w) : Can l yX8_clearText wsX8_clearText 0 0 0 [.ref 0] w (fun o w' => o = .inl (some (.int (nI N))) ∧ MoA S mc L 0 tx 0 w') := by
  obtain ⟨ixa, wr, om, db, fs, ftx, fo, ⟨ch, fm, fr, fd, fp, fg, fF, fL, fA, sF, sL, sW, fO, rw, br, st, bs, du, rfl, hM⟩, hS, hT⟩ := h
  refine Can.mono (m_clearText hfl) ?_
  rintro o w' ⟨rfl, rfl⟩
  exact ⟨rfl, ixa, wr, om, db, fs, ftx, fo, isMo hM, hS, fun k hk => absurd hk (Nat.not_lt_zero _)⟩
theorem r_thrown (hfl : l.stackTraces = false) (h : MoA S mc L N tx th w) : Can l yX8_thrown wsX8_thrown 0 0 0 [.ref 0] w (fun o w' => o = .inl (some (.int th)) ∧ w' = w) := by
  obtain ⟨ixa, wr, om, db, fs, ftx, fo, ⟨ch, fm, fr, fd, fp, fg, fF, fL, fA, sF, sL, sW, fO, rw, br, st, bs, du, rfl, hM⟩, hS, hT⟩ := h
  exact m_thrown hfl
theorem r_append (hfl : l.stackTraces = false) (hX : TxOk N tx) (h : MoA S mc L N tx th w) (x : Int32) : Can l yX8_append wsX8_append 1 0 0 [.ref 0, .int x] w (fun o w' => ∃ r v, o = .inl (some (.int v)) ∧ ((inB x 0 127 = false ∧ r = 1 ∧ MoA S mc L N tx r w') ∨ (inB x 0 127 = true ∧ N = 100 ∧ r = 2 ∧ MoA S mc L N tx r w') ∨ (inB x 0 127 = true ∧ N < 100 ∧ r = 0 ∧ v = nI (N + 1) ∧ (∀ k : Nat, k < 2 ^ 31 → x = nI k → MoA S mc L (N + 1) (va_up tx N k) r w')))) := by
  obtain ⟨ixa, wr, om, db, fs, ftx, fo, ⟨ch, fm, fr, fd, fp, fg, fF, fL, fA, sF, sL, sW, fO, rw, br, st, bs, du, rfl, hM⟩, hS, hT⟩ := h
  refine Can.mono (m_append hfl hX.1 x) ?_
  rintro o w' (⟨h1, rfl, rfl⟩ | ⟨h1, h2, rfl, rfl⟩ | ⟨h1, h2, rfl, rfl⟩)
  · exact ⟨1, 0, rfl, Or.inl ⟨h1, rfl, ixa, wr, om, db, fs, ftx, fo, isMo hM, hS, hT⟩⟩
  · exact ⟨2, 0, rfl, Or.inr (Or.inl ⟨h1, h2, rfl, ixa, wr, om, db, fs, ftx, fo, isMo hM, hS, hT⟩)⟩
  · refine ⟨0, _, rfl, Or.inr (Or.inr ⟨h1, h2, rfl, rfl, fun k _ hk => ⟨ixa, wr, om, db, fs, _, fo, isMo hM, hS, fun j hj => ?_⟩⟩)⟩
    by_cases e : j = N
    · subst e; rw [upd_at, vu_at, hk]
    · rw [upd_ne e, vu_ne e, hT j (by omega)]
theorem r_carryOut (hfl : l.stackTraces = false) (hF : Fine S mc) (hL : SvOk L) (hX : TxOk N tx) (h : MoA S mc L N tx th w) : Can l yX8_carryOut wsX8_carryOut 5 0 0 [.ref 0] w (fun o w' => (¬ (rdL (bN N tx) N 101 0).1 = -1 ∧ o = .inl (some (.int (iI (-10 - (rdL (bN N tx) N 101 0).1)))) ∧ MoA S mc L N tx 0 w') ∨ ((rdL (bN N tx) N 101 0).1 = -1 ∧ o = .inl (some (.int (nI (doO mc S (rdL (bN N tx) N 101 0).2).2))) ∧ MoA (doO mc S (rdL (bN N tx) N 101 0).2).1 mc (svP L (mc, S)) N tx 0 w')) := by
  obtain ⟨ixa, wr, om, db, fs, ftx, fo, ⟨ch, fm, fr, fd, fp, fg, fF, fL, fA, sF, sL, sW, fO, rw, br, st, bs, du, rfl, hM⟩, hS, hT⟩ := h
  refine Can.mono (m_carryOut hfl hF hM hS hL hX hT) ?_
  rintro o w' ⟨ixa', wr', om', fo', ⟨h1, h2, h3⟩ | ⟨h1, h2, fs', h4, h5⟩⟩
  · exact Or.inl ⟨h1, h2, ixa', wr', om', db, fs, ftx, fo', h3, hS, hT⟩
  · exact Or.inr ⟨h1, h2, ixa', wr', om', db, fs', ftx, fo', h5, h4, hT⟩

theorem r_value (hfl : l.stackTraces = false) (hok : TSok S mc) (h : MoA S mc L N tx th w) (x : Int32) : Can l yX8_value wsX8_value 4 0 0 [.ref 0, .int x] w (fun o w' => ∃ r v, o = .inl (some (.int v)) ∧ MoA S mc L N tx r w' ∧ ((inB x 0 5 = false ∧ r = 1 ∧ v = 0) ∨ (inB x 0 5 = true ∧ r = 0 ∧ NumR S mc x.toInt v))) := by
  obtain ⟨ixa, wr, om, db, fs, ftx, fo, ⟨ch, fm, fr, fd, fp, fg, fF, fL, fA, sF, sL, sW, fO, rw, br, st, bs, du, rfl, hM⟩, hS, hT⟩ := h
  refine Can.mono (m_value hfl hok hM x) ?_
  rintro o w' ⟨r, v, rfl, hI, hp⟩
  exact ⟨r, v, rfl, ⟨ixa, wr, om, db, fs, ftx, fo, hI, hS, hT⟩, hp⟩

end RR
