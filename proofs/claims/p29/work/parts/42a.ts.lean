/-! TASKS THAT CHANGE: what adding, giving, dates and dominance make of them; saved states -/
section TC
def tsAdd (S : TS) (m r d p : Nat) : TS := (tn S + 1, va_up (tM S) (tn S) m, va_up (tR S) (tn S) r, va_up (tD S) (tn S) d, va_up (tP S) (tn S) p, va_up (tG S) (tn S) 0)
def tsGive (S : TS) (a b : Nat) (h : Bool) : TS := (tn S, tM S, tR S, tD S, tP S, va_up (tG S) a (if h then tG S a ||| 2 ^ b else nd (tG S a) (2 ^ b)))
def tsDue (S : TS) (t d : Nat) : TS := (tn S, tM S, tR S, va_up (tD S) t d, tP S, tG S)
def tsCap (S : TS) (d : Nat) : TS := (tn S, tM S, tR S, fun t => min (tD S t) d, tP S, tG S)
def tsNone : TS := (0, fun _ => 0, fun _ => 0, fun _ => 0, fun _ => 0, fun _ => 0)
/-- without a circle of given precedences -/
def Acy (S : TS) : Prop := ∃ q : Nat → Nat, ∀ a b, a < tn S → b < tn S → bt (tG S) a b → q a < q b
def Fine (S : TS) (mc : Nat) : Prop := TSok S mc ∧ Acy S
theorem tsNone_fine {mc : Nat} (h1 : 1 ≤ mc) (h3 : mc ≤ 3) : Fine tsNone mc := ⟨⟨Nat.zero_le _, h1, h3, fun t ht => absurd ht (Nat.not_lt_zero _)⟩, ⟨fun _ => 0, fun a _ ha => absurd ha (Nat.not_lt_zero _)⟩⟩
theorem Fine_add {S : TS} {mc m r d p : Nat} (h : Fine S mc) (h8 : tn S < 8) (hm : m < mc) (hr : r ≤ 200) (hd : d ≤ 400) (hp1 : 1 ≤ p) (hp : p ≤ 50) : Fine (tsAdd S m r d p) mc := by
  obtain ⟨⟨h1, h2, h3, h4⟩, q, hq⟩ := h
  refine ⟨⟨h8, h2, h3, fun t ht => ?_⟩, q, fun a b ha hb hab => ?_⟩
  · by_cases e : t = tn S
    · subst e
      simp only [tsAdd, tM, tR, tD, tP, tG, tn, va_up, if_true]
      exact ⟨hm, hr, Nat.zero_le _, hd, hp1, hp, Nat.two_pow_pos _⟩
    · have ht : t < tn S := by
        have : t < tn S + 1 := ht
        omega
      obtain ⟨k1, k2, k3, k4, k5, k6, k7⟩ := h4 t ht
      have e1 : tM (tsAdd S m r d p) t = tM S t := vu_ne e
      have e2 : tR (tsAdd S m r d p) t = tR S t := vu_ne e
      have e3 : tD (tsAdd S m r d p) t = tD S t := vu_ne e
      have e4 : tP (tsAdd S m r d p) t = tP S t := vu_ne e
      have e5 : tG (tsAdd S m r d p) t = tG S t := vu_ne e
      rw [e1, e2, e3, e4, e5]
      exact ⟨k1, k2, k3, k4, k5, k6, Nat.lt_of_lt_of_le k7 (Nat.pow_le_pow_right (by decide) (Nat.le_succ _))⟩
  · have ha : a < tn S + 1 := ha
    have hab : (va_up (tG S) (tn S) 0 a).testBit b = true := hab
    by_cases e : a = tn S
    · subst e
      rw [vu_at, Nat.zero_testBit] at hab
      cases hab
    · rw [vu_ne e] at hab
      have ha : a < tn S := by omega
      exact hq a b ha (bit_lt (h4 a ha).2.2.2.2.2.2 hab) hab
theorem give_bt {S : TS} {a b x y : Nat} {h : Bool} (hb : bt (tG (tsGive S a b h)) x y) : bt (tG S) x y ∨ (h = true ∧ x = a ∧ y = b) := by
  have hb : (va_up (tG S) a (if h then tG S a ||| 2 ^ b else nd (tG S a) (2 ^ b)) x).testBit y = true := hb
  by_cases e : x = a
  · subst e
    rw [vu_at] at hb
    cases h
    · rw [if_neg (by decide), nd_bit, Bool.and_eq_true] at hb
      exact Or.inl hb.1
    · rw [if_pos rfl, Nat.testBit_or, Bool.or_eq_true, Nat.testBit_two_pow, decide_eq_true_iff] at hb
      rcases hb with hb | hb
      · exact Or.inl hb
      · exact Or.inr ⟨rfl, rfl, hb.symm⟩
  · rw [vu_ne e] at hb
    exact Or.inl hb
theorem TSok_give {S : TS} {mc a b : Nat} {h : Bool} (hok : TSok S mc) (ha : a < tn S) (hb : b < tn S) : TSok (tsGive S a b h) mc := by
  obtain ⟨h1, h2, h3, h4⟩ := hok
  refine ⟨h1, h2, h3, fun t ht => ?_⟩
  obtain ⟨k1, k2, k3, k4, k5, k6, k7⟩ := h4 t ht
  refine ⟨k1, k2, k3, k4, k5, k6, ?_⟩
  show va_up (tG S) a (if h then tG S a ||| 2 ^ b else nd (tG S a) (2 ^ b)) t < 2 ^ tn S
  by_cases e : t = a
  · subst e
    rw [vu_at]
    split
    · exact Nat.or_lt_two_pow k7 (Nat.pow_lt_pow_right (by decide) hb)
    · exact nd_lt k7
  · rw [vu_ne e]; exact k7
theorem Fine_give {S : TS} {mc a b : Nat} {h : Bool} (hf : Fine S mc) (ha : a < tn S) (hb : b < tn S) (hg : h = true → a ≠ b ∧ (rr S b).testBit a = false) : Fine (tsGive S a b h) mc := by
  obtain ⟨hok, q, hq⟩ := hf
  refine ⟨TSok_give hok ha hb, ?_⟩
  have hR := rr_reach hok hb
  refine ⟨fun x => if x = b ∨ (rr S b).testBit x = true then q x + q a + 1 else q x, fun x y hx hy hxy => ?_⟩
  have hx : x < tn S := hx
  have hy : y < tn S := hy
  dsimp only
  rcases give_bt hxy with h0 | ⟨h1, rfl, rfl⟩
  · have hlt := hq x y hx hy h0
    by_cases e : x = b ∨ (rr S b).testBit x = true
    · have e2 : (rr S b).testBit y = true := by
        rcases e with e | e
        · subst e; exact hR.1 y h0
        · exact hR.2.1 x hx e y h0
      rw [if_pos e, if_pos (Or.inr e2)]
      omega
    · rw [if_neg e]
      split <;> omega
  · obtain ⟨g1, g2⟩ := hg h1
    rw [if_neg (by rintro (e | e); exact g1 e; rw [g2] at e; cases e), if_pos (Or.inl rfl)]
    omega
theorem TSok_due {S : TS} {mc t d : Nat} (h : TSok S mc) (hd : d ≤ 400) : TSok (tsDue S t d) mc := by
  obtain ⟨h1, h2, h3, h4⟩ := h
  refine ⟨h1, h2, h3, fun x hx => ?_⟩
  obtain ⟨k1, k2, k3, k4, k5, k6, k7⟩ := h4 x hx
  refine ⟨k1, k2, Nat.zero_le _, ?_, k5, k6, k7⟩
  show va_up (tD S) t d x ≤ 400
  unfold va_up; split <;> omega
theorem TSok_cap {S : TS} {mc d : Nat} (h : TSok S mc) : TSok (tsCap S d) mc := by
  obtain ⟨h1, h2, h3, h4⟩ := h
  refine ⟨h1, h2, h3, fun x hx => ?_⟩
  obtain ⟨k1, k2, k3, k4, k5, k6, k7⟩ := h4 x hx
  refine ⟨k1, k2, Nat.zero_le _, ?_, k5, k6, k7⟩
  show min (tD S x) d ≤ 400
  omega
/-! the arrays of the reference -/
theorem give_val {g b : Nat} (h : Bool) : (if h then nI g ||| nI (2 ^ b) else nI g &&& (nI (2 ^ b) ^^^ (-1))) = nI (if h then g ||| 2 ^ b else nd g (2 ^ b)) := by
  cases h
  · exact n_andn _ _
  · exact n_or _ _
/-! saved states, the oldest first -/
def svP (L : List (Nat × TS)) (x : Nat × TS) : List (Nat × TS) := (if L.length = 4 then L.tail else L) ++ [x]
def SvOk (L : List (Nat × TS)) : Prop := L.length ≤ 4 ∧ ∀ x, x ∈ L → Fine x.2 x.1
theorem SvOk.le {L : List (Nat × TS)} (h : SvOk L) {x : Nat × TS} {k : Nat} (hk : L[k]? = some x) : tn x.2 ≤ 8 := (h.2 x (List.mem_of_getElem? hk)).1.1
/-- the numbers that task answers -/
def aspN (S : TS) (t q : Nat) : Nat := if q = 0 then tM S t else if q = 1 then tR S t else if q = 2 then tD S t else if q = 3 then tP S t else if q = 4 then tA S t else tG S t
/-! dominance given -/
def gdB (a : Nat) (X : TS × Nat) : Nat → TS × Nat
  | 0 => X
  | b + 1 => if domB (gdB a X b).1 a b = true ∧ (tG (gdB a X b).1 a).testBit b = false ∧ (rr (gdB a X b).1 b).testBit a = false then (tsGive (gdB a X b).1 a b true, (gdB a X b).2 + 1) else gdB a X b
def gdA (S : TS) : Nat → TS × Nat
  | 0 => (S, 0)
  | a + 1 => gdB a (gdA S a) (tn S)
theorem domB_ne {S : TS} {a b : Nat} (h : domB S a b = true) : a ≠ b := by
  unfold domB at h
  exact (of_decide_eq_true h).1
theorem gdB_ok {X : TS × Nat} {mc a : Nat} (h : Fine X.1 mc) (ha : a < tn X.1) : ∀ b, b ≤ tn X.1 → Fine (gdB a X b).1 mc ∧ tn (gdB a X b).1 = tn X.1 ∧ (gdB a X b).2 ≤ X.2 + b
  | 0, _ => ⟨h, rfl, Nat.le_refl _⟩
  | b + 1, hb => by
    obtain ⟨i1, i2, i3⟩ := gdB_ok h ha b (by omega)
    rw [gdB]
    split
    · next hc => exact ⟨Fine_give i1 (by rw [i2]; exact ha) (by rw [i2]; omega) (fun _ => ⟨domB_ne hc.1, hc.2.2⟩), i2, by show (gdB a X b).2 + 1 ≤ _; omega⟩
    · exact ⟨i1, i2, by omega⟩
theorem gdA_ok {S : TS} {mc : Nat} (h : Fine S mc) : ∀ a, a ≤ tn S → Fine (gdA S a).1 mc ∧ tn (gdA S a).1 = tn S ∧ (gdA S a).2 ≤ 8 * a
  | 0, _ => ⟨h, rfl, Nat.le_refl _⟩
  | a + 1, ha => by
    obtain ⟨i1, i2, i3⟩ := gdA_ok h a (by omega)
    have hn := h.1.1
    obtain ⟨j1, j2, j3⟩ := gdB_ok i1 (a := a) (by rw [i2]; omega) (tn S) (by rw [i2]; omega)
    rw [gdA]
    exact ⟨j1, by rw [j2, i2], by omega⟩
end TC
