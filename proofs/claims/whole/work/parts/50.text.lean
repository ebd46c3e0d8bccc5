/-! THE TEXT: what its orders are -/
section TX
def bN (n : Nat) (tx : Nat → Nat) (k : Nat) : Int := if k < n then (tx k : Int) else -1
def TxOk (n : Nat) (tx : Nat → Nat) : Prop := n ≤ 100 ∧ ∀ k, k < n → tx k ≤ 127
theorem bN_b {n : Nat} {tx : Nat → Nat} (h : TxOk n tx) (k : Nat) : -1 ≤ bN n tx k ∧ bN n tx k ≤ 127 := by
  unfold bN
  split
  · next hk => have := h.2 k hk; omega
  · omega
theorem bN_lt {n : Nat} {tx : Nat → Nat} {k : Nat} (h : bN n tx k ≠ -1) : k < n := by
  unfold bN at h
  split at h
  · next hk => exact hk
  · exact absurd rfl h
def dg (β : Nat → Int) (p : Nat) : Bool := decide (48 ≤ β p ∧ β p ≤ 57)
def sB (β : Nat → Int) (c : Int) (x : Int × Nat) : Int × Nat := if x.1 = -1 then (if β x.2 = c then (-1, x.2 + 1) else ((x.2 : Int), x.2)) else x
def sD (β : Nat → Int) (most : Nat) (x : Int × Nat) : (Int × Nat) × Nat := if x.1 = -1 then (if 48 ≤ β x.2 ∧ β x.2 ≤ 48 + (most : Int) then ((-1, x.2 + 1), (β x.2 - 48).toNat) else (((x.2 : Int), x.2), 0)) else (x, 0)
def nmR (β : Nat → Int) : Nat → Nat → Nat → Nat × Nat
  | 0, p, v => (p, v)
  | k + 1, p, v => if dg β p then nmR β k (p + 1) (10 * v + (β p - 48).toNat) else (p, v)
def sNm (β : Nat → Int) (dgs lo hi : Nat) (x : Int × Nat) : (Int × Nat) × Nat := if x.1 = -1 then (if (nmR β dgs x.2 0).1 = x.2 ∨ dg β (nmR β dgs x.2 0).1 = true then ((((nmR β dgs x.2 0).1 : Int), (nmR β dgs x.2 0).1), (nmR β dgs x.2 0).2) else if (nmR β dgs x.2 0).2 < lo ∨ hi < (nmR β dgs x.2 0).2 then (((x.2 : Int), (nmR β dgs x.2 0).1), (nmR β dgs x.2 0).2) else ((-1, (nmR β dgs x.2 0).1), (nmR β dgs x.2 0).2)) else (x, 0)
abbrev zOrd : Type := Nat × Nat × Nat × Nat × Nat
def sT1 (β : Nat → Int) (x : Int × Nat) := sD β 2 x
def sT2 (β : Nat → Int) (x : Int × Nat) := sNm β 3 0 200 (sB β 58 (sT1 β x).1)
def sT3 (β : Nat → Int) (x : Int × Nat) := sNm β 3 1 400 (sB β 45 (sT2 β x).1)
def sT4 (β : Nat → Int) (x : Int × Nat) := sNm β 2 1 50 (sB β 42 (sT3 β x).1)
def sP1 (β : Nat → Int) (x : Int × Nat) := sD β 7 x
def sP2 (β : Nat → Int) (x : Int × Nat) := sD β 7 (sP1 β x).1
def sO (β : Nat → Int) (p : Nat) : (Int × Nat) × zOrd :=
  if β p = 116 then (sB β 59 (sT4 β (-1, p + 1)).1, (0, (sT1 β (-1, p + 1)).2, (sT2 β (-1, p + 1)).2, (sT3 β (-1, p + 1)).2, (sT4 β (-1, p + 1)).2))
  else if β p = 112 ∨ β p = 113 then (sB β 59 (sP2 β (-1, p + 1)).1, ((if β p = 112 then 1 else 2), (sP1 β (-1, p + 1)).2, (sP2 β (-1, p + 1)).2, 0, 0))
  else (((p : Int), p), (0, 0, 0, 0, 0))
/-- what reading from p gives: the place of the first fault (or -1), and the orders before it -/
def rdL (β : Nat → Int) (n : Nat) : Nat → Nat → Int × List zOrd
  | 0, _ => (-1, [])
  | f + 1, p => if p < n then (if (sO β p).1.1 = -1 then ((rdL β n f (sO β p).1.2).1, (sO β p).2 :: (rdL β n f (sO β p).1.2).2) else ((sO β p).1.1, [])) else (-1, [])
/-! what a step keeps: a fault stays, and is a place; the place grows -/
def St0 (x : Int × Nat) : Prop := -1 ≤ x.1 ∧ x.1 ≤ 1000 ∧ x.2 ≤ 1000
theorem sB_ok {β : Nat → Int} {c : Int} {x : Int × Nat} : ((sB β c x).1 = -1 → x.1 = -1 ∧ β x.2 = c ∧ (sB β c x).2 = x.2 + 1) ∧ (x.1 ≠ -1 → sB β c x = x) := by
  unfold sB
  refine ⟨fun h => ?_, fun h => by rw [if_neg h]⟩
  by_cases e : x.1 = -1
  · rw [if_pos e] at h ⊢
    by_cases e2 : β x.2 = c
    · rw [if_pos e2]; exact ⟨e, e2, rfl⟩
    · rw [if_neg e2] at h
      have h : (x.2 : Int) = -1 := h
      omega
  · rw [if_neg e] at h
    exact absurd h e
theorem sD_ok {β : Nat → Int} {m : Nat} {x : Int × Nat} : ((sD β m x).1.1 = -1 → x.1 = -1 ∧ (sD β m x).1.2 = x.2 + 1 ∧ (sD β m x).2 ≤ m) ∧ (x.1 ≠ -1 → (sD β m x).1 = x) := by
  unfold sD
  refine ⟨fun h => ?_, fun h => by rw [if_neg h]⟩
  by_cases e : x.1 = -1
  · rw [if_pos e] at h ⊢
    by_cases e2 : 48 ≤ β x.2 ∧ β x.2 ≤ 48 + (m : Int)
    · rw [if_pos e2]; exact ⟨e, rfl, by show (β x.2 - 48).toNat ≤ m; omega⟩
    · rw [if_neg e2] at h
      have h : (x.2 : Int) = -1 := h
      omega
  · rw [if_neg e] at h
    exact absurd h e
theorem nmR_ge {β : Nat → Int} : ∀ k p v, p ≤ (nmR β k p v).1 ∧ (nmR β k p v).1 ≤ p + k
  | 0, p, v => ⟨Nat.le_refl _, Nat.le_refl _⟩
  | k + 1, p, v => by
    rw [nmR]
    split
    · have := nmR_ge (β := β) k (p + 1) (10 * v + (β p - 48).toNat)
      omega
    · show p ≤ p ∧ p ≤ p + (k + 1)
      omega
theorem sNm_ok {β : Nat → Int} {k lo hi : Nat} {x : Int × Nat} : ((sNm β k lo hi x).1.1 = -1 → x.1 = -1 ∧ x.2 + 1 ≤ (sNm β k lo hi x).1.2 ∧ lo ≤ (sNm β k lo hi x).2 ∧ (sNm β k lo hi x).2 ≤ hi) ∧ (x.1 ≠ -1 → (sNm β k lo hi x).1 = x) := by
  have hg := nmR_ge (β := β) k x.2 0
  unfold sNm
  refine ⟨fun h => ?_, fun h => by rw [if_neg h]⟩
  by_cases e : x.1 = -1
  · rw [if_pos e] at h ⊢
    by_cases e2 : (nmR β k x.2 0).1 = x.2 ∨ dg β (nmR β k x.2 0).1 = true
    · rw [if_pos e2] at h
      have h : ((nmR β k x.2 0).1 : Int) = -1 := h
      omega
    · rw [if_neg e2] at h ⊢
      by_cases e3 : (nmR β k x.2 0).2 < lo ∨ hi < (nmR β k x.2 0).2
      · rw [if_pos e3] at h
        have h : (x.2 : Int) = -1 := h
        omega
      · rw [if_neg e3]
        have : (nmR β k x.2 0).1 ≠ x.2 := fun q => e2 (Or.inl q)
        exact ⟨e, by show x.2 + 1 ≤ (nmR β k x.2 0).1; omega, by show lo ≤ (nmR β k x.2 0).2; omega, by show (nmR β k x.2 0).2 ≤ hi; omega⟩
  · rw [if_neg e] at h
    exact absurd h e
/-- an order read without a fault: it lies within the text, and its numbers are in their bounds -/
theorem sO_ok {β : Nat → Int} {p : Nat} (h : (sO β p).1.1 = -1) : p + 2 ≤ (sO β p).1.2 ∧ β ((sO β p).1.2 - 1) = 59 ∧ (((sO β p).2.1 = 0 ∧ (sO β p).2.2.1 ≤ 2 ∧ (sO β p).2.2.2.1 ≤ 200 ∧ 1 ≤ (sO β p).2.2.2.2.1 ∧ (sO β p).2.2.2.2.1 ≤ 400 ∧ 1 ≤ (sO β p).2.2.2.2.2 ∧ (sO β p).2.2.2.2.2 ≤ 50) ∨ (((sO β p).2.1 = 1 ∨ (sO β p).2.1 = 2) ∧ (sO β p).2.2.1 ≤ 7 ∧ (sO β p).2.2.2.1 ≤ 7)) := by
  unfold sO at h ⊢
  by_cases e1 : β p = 116
  · rw [if_pos e1] at h ⊢
    dsimp only at h ⊢
    obtain ⟨a1, a2, a3⟩ := sB_ok.1 h
    obtain ⟨b1, b2, b3, b4⟩ := sNm_ok.1 (show (sT4 β (-1, p + 1)).1.1 = -1 from a1)
    obtain ⟨c1, -, c3⟩ := sB_ok.1 b1
    obtain ⟨d1, d2, d3, d4⟩ := sNm_ok.1 (show (sT3 β (-1, p + 1)).1.1 = -1 from c1)
    obtain ⟨f1, -, f3⟩ := sB_ok.1 d1
    obtain ⟨g1, g2, g3, g4⟩ := sNm_ok.1 (show (sT2 β (-1, p + 1)).1.1 = -1 from f1)
    obtain ⟨i1, -, i3⟩ := sB_ok.1 g1
    obtain ⟨-, j2, j3⟩ := sD_ok.1 (show (sT1 β (-1, p + 1)).1.1 = -1 from i1)
    have j2 : (sT1 β (-1, p + 1)).1.2 = p + 1 + 1 := j2
    have b2' : (sB β 42 (sT3 β (-1, p + 1)).1).2 + 1 ≤ (sT4 β (-1, p + 1)).1.2 := b2
    have d2' : (sB β 45 (sT2 β (-1, p + 1)).1).2 + 1 ≤ (sT3 β (-1, p + 1)).1.2 := d2
    have g2' : (sB β 58 (sT1 β (-1, p + 1)).1).2 + 1 ≤ (sT2 β (-1, p + 1)).1.2 := g2
    refine ⟨by omega, by rw [a3, Nat.add_sub_cancel]; exact a2, Or.inl ⟨rfl, j3, g4, d3, d4, b3, b4⟩⟩
  · rw [if_neg e1] at h ⊢
    by_cases e2 : β p = 112 ∨ β p = 113
    · rw [if_pos e2] at h ⊢
      dsimp only at h ⊢
      obtain ⟨a1, a2, a3⟩ := sB_ok.1 h
      obtain ⟨b1, b2, b3⟩ := sD_ok.1 (show (sP2 β (-1, p + 1)).1.1 = -1 from a1)
      obtain ⟨-, c2, c3⟩ := sD_ok.1 (show (sP1 β (-1, p + 1)).1.1 = -1 from b1)
      have c2 : (sP1 β (-1, p + 1)).1.2 = p + 1 + 1 := c2
      have b2' : (sP2 β (-1, p + 1)).1.2 = (sP1 β (-1, p + 1)).1.2 + 1 := b2
      refine ⟨by omega, by rw [a3, Nat.add_sub_cancel]; exact a2, Or.inr ⟨?_, c3, b3⟩⟩
      by_cases e3 : β p = 112
      · rw [if_pos e3]; exact Or.inl rfl
      · rw [if_neg e3]; exact Or.inr rfl
    · rw [if_neg e2] at h
      have h : (p : Int) = -1 := h
      omega
theorem sO_n {n : Nat} {tx : Nat → Nat} {p : Nat} (h : (sO (bN n tx) p).1.1 = -1) : (sO (bN n tx) p).1.2 ≤ n := by
  obtain ⟨h1, h2, -⟩ := sO_ok h
  have := bN_lt (n := n) (tx := tx) (k := (sO (bN n tx) p).1.2 - 1) (by rw [h2]; omega)
  omega
/-- an order carried out -/
def ordF (mc : Nat) (S : TS) (o : zOrd) : Bool := if o.1 = 0 then decide (fAdd mc (tn S) (nI o.2.1) (nI o.2.2.1) (nI o.2.2.2.1) (nI o.2.2.2.2) = 0) else decide (fG S (nI o.2.1) (nI o.2.2.1) (decide (o.1 = 1)) = 0)
def ordS (S : TS) (o : zOrd) : TS := if o.1 = 0 then tsAdd S o.2.1 o.2.2.1 o.2.2.2.1 o.2.2.2.2 else tsGive S o.2.1 o.2.2.1 (decide (o.1 = 1))
def doO (mc : Nat) : TS → List zOrd → TS × Nat
  | S, [] => (S, 0)
  | S, o :: os => if ordF mc S o then ((doO mc (ordS S o) os).1, (doO mc (ordS S o) os).2 + 1) else (S, 0)
/-- orders whose numbers are small enough -/
def OrdOk (o : zOrd) : Prop := o.1 ≤ 2 ∧ o.2.1 ≤ 400 ∧ o.2.2.1 ≤ 400 ∧ (o.1 = 0 → o.2.2.2.1 ≤ 400 ∧ o.2.2.2.2 ≤ 400)
theorem sO_ord {β : Nat → Int} {p : Nat} (h : (sO β p).1.1 = -1) : OrdOk (sO β p).2 := by
  obtain ⟨-, -, h3⟩ := sO_ok h
  unfold OrdOk
  rcases h3 with ⟨a, b, c, d, e, f, g⟩ | ⟨a, b, c⟩
  · exact ⟨by omega, by omega, by omega, fun _ => ⟨by omega, by omega⟩⟩
  · exact ⟨by omega, by omega, by omega, fun q => by omega⟩
theorem rdL_ord {β : Nat → Int} {n : Nat} : ∀ f p o, o ∈ (rdL β n f p).2 → OrdOk o
  | 0, p, o, h => by rw [rdL] at h; cases h
  | f + 1, p, o, h => by
    rw [rdL] at h
    split at h
    · split at h
      · next hs =>
        rcases List.mem_cons.mp h with q | q
        · rw [q]; exact sO_ord hs
        · exact rdL_ord f _ o q
      · cases h
    · cases h
theorem ord_fine {mc : Nat} {S : TS} {o : zOrd} (hF : Fine S mc) (ho : OrdOk o) (h : ordF mc S o = true) : Fine (ordS S o) mc := by
  obtain ⟨o1, o2, o3, o4⟩ := ho
  unfold ordF at h
  unfold ordS
  by_cases e : o.1 = 0
  · rw [if_pos e, decide_eq_true_iff] at h
    rw [if_pos e]
    obtain ⟨o5, o6⟩ := o4 e
    obtain ⟨m', r', d', p', e1, e2, e3, e4, km, kr, kd, kp1, kp, k8⟩ := fAdd_0 hF.1.2.2.1 h
    have hmc := hF.1.2.2.1
    rw [nI_eq (by omega) (by omega)] at e1 e2 e3 e4
    exact Fine_add hF k8 (by omega) (by omega) (by omega) (by omega) (by omega)
  · rw [if_neg e, decide_eq_true_iff] at h
    rw [if_neg e]
    obtain ⟨i, j, hi, hj, e1, e2, hij, hr⟩ := fG_0 hF.1.1 h
    have hn := hF.1.1
    rw [nI_eq (by omega) (by omega)] at e1 e2
    rw [e1, e2]
    exact Fine_give hF hi hj (fun q => ⟨hij, hr q⟩)
theorem doO_ok {mc : Nat} : ∀ (os : List zOrd) (S : TS), Fine S mc → (∀ o, o ∈ os → OrdOk o) → Fine (doO mc S os).1 mc ∧ (doO mc S os).2 ≤ os.length
  | [], S, h, _ => ⟨h, Nat.le_refl _⟩
  | o :: os, S, h, ho => by
    rw [doO]
    split
    · next hf =>
      have ih := doO_ok os (ordS S o) (ord_fine h (ho o (List.mem_cons_self)) hf) (fun q hq => ho q (List.mem_cons_of_mem _ hq))
      exact ⟨ih.1, by show (doO mc (ordS S o) os).2 + 1 ≤ os.length + 1; omega⟩
    · exact ⟨h, Nat.zero_le _⟩
end TX
