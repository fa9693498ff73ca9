/-! what a sum of a text is: the class's code and the reference's, or the fault and its place -/
abbrev Cd := List Nat × List (Nat × Nat)
abbrev Rs := Sum (Nat × Nat) (Cd × Nat)
def bnd (r : Rs) (f : Cd → Nat → Rs) : Rs := match r with
  | .inl e => .inl e
  | .inr (c, p) => f c p
def isMul (k : Nat) : Bool := decide (k = 34 ∨ k = 35)
def isAdd (k : Nat) : Bool := decide (k = 32 ∨ k = 33)
def isCmp (k : Nat) : Bool := decide ((28 ≤ k ∧ k ≤ 31) ∨ k = 39 ∨ k = 40)
def cmM (k : Nat) : Nat := if k = 28 then 10 else if k = 39 then 11 else if k = 29 then 12 else if k = 40 then 13 else if k = 30 then 14 else 15
def kw (k : Nat) : Nat := if k = 7 then 0 else if k = 9 then 1 else if k = 10 then 2 else if k = 11 then 3 else if k = 8 then 4 else k - 7
def cB (o : Nat) (a c : Cd) : Cd := (a.1 ++ c.1 ++ [o], a.2 ++ c.2 ++ [(o - 26, 0)])
def cC (o : Nat) (a c : Cd) : Cd := (a.1 ++ c.1 ++ [o], a.2 ++ c.2 ++ [(cmM o, 0)])
def cJ (o : Nat) (a c : Cd) : Cd := (a.1 ++ c.1 ++ [o], a.2 ++ c.2 ++ [(if o = 26 then 21 else 22, 0)])
def cMn (a c : Cd) : Cd := (a.1 ++ c.1 ++ [19], a.2 ++ c.2 ++ [(4, 0)])
def cU (o : Nat) (a : Cd) : Cd := if o = 33 then (a.1 ++ [44], a.2 ++ [(5, 0)]) else (a.1 ++ [20], a.2 ++ [(2, 0)])
def cNt (a : Cd) : Cd := (a.1 ++ [27], a.2 ++ [(20, 0)])
def cIf (c a e : Cd) : Cd := (c.1 ++ [46 + (a.1.length + 1) * 64] ++ a.1 ++ [45 + e.1.length * 64] ++ e.1, c.2 ++ a.2 ++ e.2 ++ [(3, 0)])
section Parse
variable (b : Nat → Nat) (n L : Nat)
def xpt (w : Nat) (c : Cd) (p : Nat) : Rs := if tK b n p = w then .inr (c, tX b n p) else .inl (1, tS b n p)
def lpO (iso : Nat → Bool) (cmb : Nat → Cd → Cd → Cd) (sub : Nat → Rs) : Nat → Cd → Nat → Rs
  | 0, c, p => .inr (c, p)
  | m + 1, c, p => if iso (tK b n p) = true then bnd (sub (tX b n p)) (fun c2 p2 => lpO iso cmb sub m (cmb (tK b n p) c c2) p2) else .inr (c, p)
def prd (one : Nat → Rs) (p : Nat) : Rs := bnd (one p) (fun c p => lpO b n isMul cB one 300 c p)
def smr (one : Nat → Rs) (p : Nat) : Rs := bnd (prd b n one p) (fun c p => lpO b n isAdd cB (prd b n one) 300 c p)
def bth (ask : Nat → Rs) (p : Nat) : Rs := bnd (ask p) (fun c p => lpO b n (fun k => decide (k = 26)) cJ ask 300 c p)
def eth (ask : Nat → Rs) (p : Nat) : Rs := bnd (bth b n ask p) (fun c p => lpO b n (fun k => decide (k = 25)) cJ (bth b n ask) 300 c p)
def askS (one nt : Nat → Rs) (p : Nat) : Rs := if tK b n p = 27 then nt p else bnd (smr b n one p) (fun c p1 => if isCmp (tK b n p1) = true then bnd (smr b n one (tX b n p1)) (fun c2 p2 => .inr (cC (tK b n p1) c c2, p2)) else .inl (1, tS b n p1))
def oneS (opn : Nat → Rs) (p : Nat) : Rs :=
  if tK b n p = 41 then (if tV b n p ≤ 9999 then .inr (([41 + tV b n p * 64], [(0, tV b n p)]), tX b n p) else .inl (2, tS b n p))
  else if 7 ≤ tK b n p ∧ tK b n p ≤ 15 then (if (L = 0 ∧ (tK b n p = 14 ∨ tK b n p = 15)) ∨ (L = 1 ∧ tK b n p = 13) then .inl (5, tS b n p) else .inr (([tK b n p], [(1, kw (tK b n p))]), tX b n p))
  else if tK b n p = 36 ∨ tK b n p = 33 ∨ tK b n p = 19 ∨ tK b n p = 20 ∨ tK b n p = 21 then opn p
  else .inl (1, tS b n p)
def chc (one ask : Nat → Rs) (p : Nat) : Rs := bnd (eth b n ask p) (fun c p1 => bnd (xpt b n 22 c p1) (fun c p2 => bnd (smr b n one p2) (fun a p3 => bnd (xpt b n 23 a p3) (fun a p4 => bnd (smr b n one p4) (fun e p5 => bnd (xpt b n 24 e p5) (fun e p6 => .inr (cIf c a e, p6)))))))
def opnS (one ask : Nat → Rs) (p : Nat) : Rs :=
  if tK b n p = 36 then bnd (smr b n one (tX b n p)) (fun c p1 => xpt b n 37 c p1)
  else if tK b n p = 21 then chc b n one ask (tX b n p)
  else if tK b n p = 19 then bnd (one (tX b n p)) (fun a p1 => bnd (xpt b n 18 a p1) (fun a p2 => bnd (one p2) (fun c p3 => .inr (cMn a c, p3))))
  else bnd (one (tX b n p)) (fun c p1 => .inr (cU (tK b n p) c, p1))
def dpF (p : Nat) : Rs := .inl (3, tS b n p)
/-- one and a question, with so many that may still be opened -/
def lv1 : Nat → (Nat → Rs) × (Nat → Rs)
  | 0 => (oneS b n L (dpF b n), askS b n (oneS b n L (dpF b n)) (dpF b n))
  | D + 1 => (oneS b n L (opnS b n (lv1 D).1 (lv1 D).2), askS b n (oneS b n L (opnS b n (lv1 D).1 (lv1 D).2)) (fun p => bnd ((lv1 D).2 (tX b n p)) (fun c p1 => .inr (cNt c, p1))))
end Parse
theorem bnd_l {e : Nat × Nat} {f : Cd → Nat → Rs} : bnd (.inl e) f = .inl e := rfl
theorem bnd_r {c : Cd} {p : Nat} {f : Cd → Nat → Rs} : bnd (.inr (c, p)) f = f c p := rfl
theorem bnd_i {r : Rs} {f : Cd → Nat → Rs} {c : Cd} {p : Nat} (h : bnd r f = .inr (c, p)) : ∃ c1 p1, r = .inr (c1, p1) ∧ f c1 p1 = .inr (c, p) := by
  cases r with
  | inl e => cases h
  | inr v =>
    obtain ⟨c1, p1⟩ := v
    exact ⟨c1, p1, rfl, h⟩
/-- no more code than bytes -/
def LnR (b : Nat → Nat) (n : Nat) (r : Nat → Rs) : Prop := ∀ p, p ≤ n → ∀ c p', r p = .inr (c, p') → p' ≤ n ∧ c.1.length + tS b n p ≤ tS b n p' ∧ c.2.length + tS b n p ≤ tS b n p'
section Len
variable {b : Nat → Nat} {n L : Nat}
/-- a token taken -/
theorem tk_st {p : Nat} (hp : p ≤ n) (h : tK b n p ≠ 42) : tX b n p ≤ n ∧ tS b n p + 1 ≤ tS b n (tX b n p) := by
  obtain ⟨g1, g2⟩ := tS_le (b := b) hp
  obtain ⟨h1, h2, h3⟩ := tX_le (b := b) hp
  have h4 : tS b n p < n := by
    apply Nat.lt_of_not_le
    intro hc
    exact h (tK_42.mpr hc)
  have := h3 h4
  have := (tS_le (b := b) h2).1
  omega
theorem ln_x {w p : Nat} {c c' : Cd} {p' : Nat} (hp : p ≤ n) (hw : w ≠ 42) (h : xpt b n w c p = .inr (c', p')) : c' = c ∧ p' = tX b n p ∧ p' ≤ n ∧ tS b n p + 1 ≤ tS b n p' := by
  unfold xpt at h
  by_cases ck : tK b n p = w
  · rw [if_pos ck] at h
    have e1 := (Prod.mk.inj (Sum.inr.inj h)).1
    have e2 := (Prod.mk.inj (Sum.inr.inj h)).2
    obtain ⟨h1, h2⟩ := tk_st hp (show tK b n p ≠ 42 by omega)
    rw [← e2]
    exact ⟨e1.symm, rfl, h1, h2⟩
  · rw [if_neg ck] at h
    cases h
theorem ln_l {iso : Nat → Bool} {cmb : Nat → Cd → Cd → Cd} {sub : Nat → Rs} (hi : iso 42 = false) (hc : ∀ o a c, (cmb o a c).1.length = a.1.length + c.1.length + 1 ∧ (cmb o a c).2.length = a.2.length + c.2.length + 1) (hs : LnR b n sub) : ∀ m c p, p ≤ n → ∀ c' p', lpO b n iso cmb sub m c p = .inr (c', p') → p' ≤ n ∧ c'.1.length + tS b n p ≤ c.1.length + tS b n p' ∧ c'.2.length + tS b n p ≤ c.2.length + tS b n p'
  | 0, c, p, hp, c', p', h => by
    rw [lpO] at h
    have e1 := (Prod.mk.inj (Sum.inr.inj h)).1
    have e2 := (Prod.mk.inj (Sum.inr.inj h)).2
    rw [← e1, ← e2]
    omega
  | m + 1, c, p, hp, c', p', h => by
    rw [lpO] at h
    by_cases ck : iso (tK b n p) = true
    · rw [if_pos ck] at h
      have k42 : tK b n p ≠ 42 := fun e => by
        rw [e, hi] at ck
        cases ck
      obtain ⟨h1, h2⟩ := tk_st hp k42
      obtain ⟨c2, p2, e1, e2⟩ := bnd_i h
      obtain ⟨h3, h4, h5⟩ := hs _ h1 c2 p2 e1
      obtain ⟨h6, h7, h8⟩ := ln_l hi hc hs m _ p2 h3 c' p' e2
      obtain ⟨h9, h10⟩ := hc (tK b n p) c c2
      omega
    · rw [if_neg ck] at h
      have e1 := (Prod.mk.inj (Sum.inr.inj h)).1
      have e2 := (Prod.mk.inj (Sum.inr.inj h)).2
      rw [← e1, ← e2]
      omega
theorem cB_l (o : Nat) (a c : Cd) : (cB o a c).1.length = a.1.length + c.1.length + 1 ∧ (cB o a c).2.length = a.2.length + c.2.length + 1 := by
  unfold cB
  simp only [List.length_append, List.length_cons, List.length_nil, and_self, Nat.zero_add]
theorem cJ_l (o : Nat) (a c : Cd) : (cJ o a c).1.length = a.1.length + c.1.length + 1 ∧ (cJ o a c).2.length = a.2.length + c.2.length + 1 := by
  unfold cJ
  simp only [List.length_append, List.length_cons, List.length_nil, and_self, Nat.zero_add]
theorem cC_l (o : Nat) (a c : Cd) : (cC o a c).1.length = a.1.length + c.1.length + 1 ∧ (cC o a c).2.length = a.2.length + c.2.length + 1 := by
  unfold cC
  simp only [List.length_append, List.length_cons, List.length_nil, and_self, Nat.zero_add]
theorem cMn_l (a c : Cd) : (cMn a c).1.length = a.1.length + c.1.length + 1 ∧ (cMn a c).2.length = a.2.length + c.2.length + 1 := by
  unfold cMn
  simp only [List.length_append, List.length_cons, List.length_nil, and_self, Nat.zero_add]
theorem cU_l (o : Nat) (a : Cd) : (cU o a).1.length = a.1.length + 1 ∧ (cU o a).2.length = a.2.length + 1 := by
  unfold cU
  split <;> simp only [List.length_append, List.length_cons, List.length_nil, and_self, Nat.zero_add]
theorem cNt_l (a : Cd) : (cNt a).1.length = a.1.length + 1 ∧ (cNt a).2.length = a.2.length + 1 := by
  unfold cNt
  simp only [List.length_append, List.length_cons, List.length_nil, and_self, Nat.zero_add]
theorem cIf_l (c a e : Cd) : (cIf c a e).1.length = c.1.length + a.1.length + e.1.length + 2 ∧ (cIf c a e).2.length = c.2.length + a.2.length + e.2.length + 1 := by
  have e1 : (cIf c a e).1.length = c.1.length + 1 + a.1.length + 1 + e.1.length := by
    unfold cIf
    simp only [List.length_append, List.length_cons, List.length_nil, Nat.zero_add]
  have e2 : (cIf c a e).2.length = c.2.length + a.2.length + e.2.length + 1 := by
    unfold cIf
    simp only [List.length_append, List.length_cons, List.length_nil, Nat.zero_add]
  exact ⟨by omega, e2⟩
theorem ln_prd {one : Nat → Rs} (h1 : LnR b n one) : LnR b n (prd b n one) := fun p hp c p' h => by
  obtain ⟨c1, p1, e1, e2⟩ := bnd_i h
  obtain ⟨a1, a2, a3⟩ := h1 p hp c1 p1 e1
  obtain ⟨b1, b2, b3⟩ := ln_l (by decide) cB_l h1 300 c1 p1 a1 c p' e2
  omega
theorem ln_smr {one : Nat → Rs} (h1 : LnR b n one) : LnR b n (smr b n one) := fun p hp c p' h => by
  obtain ⟨c1, p1, e1, e2⟩ := bnd_i h
  obtain ⟨a1, a2, a3⟩ := ln_prd h1 p hp c1 p1 e1
  obtain ⟨b1, b2, b3⟩ := ln_l (by decide) cB_l (ln_prd h1) 300 c1 p1 a1 c p' e2
  omega
theorem ln_bth {ask : Nat → Rs} (h1 : LnR b n ask) : LnR b n (bth b n ask) := fun p hp c p' h => by
  obtain ⟨c1, p1, e1, e2⟩ := bnd_i h
  obtain ⟨a1, a2, a3⟩ := h1 p hp c1 p1 e1
  obtain ⟨b1, b2, b3⟩ := ln_l (by decide) cJ_l h1 300 c1 p1 a1 c p' e2
  omega
theorem ln_eth {ask : Nat → Rs} (h1 : LnR b n ask) : LnR b n (eth b n ask) := fun p hp c p' h => by
  obtain ⟨c1, p1, e1, e2⟩ := bnd_i h
  obtain ⟨a1, a2, a3⟩ := ln_bth h1 p hp c1 p1 e1
  obtain ⟨b1, b2, b3⟩ := ln_l (by decide) cJ_l (ln_bth h1) 300 c1 p1 a1 c p' e2
  omega
theorem inr_i {c c' : Cd} {p p' : Nat} (h : (Sum.inr (c, p) : Rs) = .inr (c', p')) : c = c' ∧ p = p' := Prod.mk.inj (Sum.inr.inj h)
theorem ln_ask {one nt : Nat → Rs} (h1 : LnR b n one) (h2 : ∀ p, p ≤ n → tK b n p = 27 → ∀ c p', nt p = .inr (c, p') → p' ≤ n ∧ c.1.length + tS b n p ≤ tS b n p' ∧ c.2.length + tS b n p ≤ tS b n p') : LnR b n (askS b n one nt) := fun p hp c p' h => by
  unfold askS at h
  by_cases ck : tK b n p = 27
  · rw [if_pos ck] at h
    exact h2 p hp ck c p' h
  · rw [if_neg ck] at h
    obtain ⟨c1, p1, e1, e2⟩ := bnd_i h
    obtain ⟨a1, a2, a3⟩ := ln_smr h1 p hp c1 p1 e1
    by_cases cc : isCmp (tK b n p1) = true
    · rw [if_pos cc] at e2
      have k42 : tK b n p1 ≠ 42 := fun e => by
        rw [e] at cc
        exact absurd cc (by decide)
      obtain ⟨t1, t2⟩ := tk_st a1 k42
      obtain ⟨c2, p2, e3, e4⟩ := bnd_i e2
      obtain ⟨b1, b2, b3⟩ := ln_smr h1 _ t1 c2 p2 e3
      obtain ⟨f1, f2⟩ := inr_i e4
      obtain ⟨l1, l2⟩ := cC_l (tK b n p1) c1 c2
      rw [← f1, ← f2]
      omega
    · rw [if_neg cc] at e2
      cases e2
theorem ln_one {opn : Nat → Rs} (h2 : ∀ p, p ≤ n → tK b n p ≠ 42 → ∀ c p', opn p = .inr (c, p') → p' ≤ n ∧ c.1.length + tS b n p ≤ tS b n p' ∧ c.2.length + tS b n p ≤ tS b n p') : LnR b n (oneS b n L opn) := fun p hp c p' h => by
  unfold oneS at h
  by_cases c1 : tK b n p = 41
  · rw [if_pos c1] at h
    obtain ⟨t1, t2⟩ := tk_st hp (show tK b n p ≠ 42 by omega)
    split at h
    · obtain ⟨f1, f2⟩ := inr_i h
      rw [← f1, ← f2]
      simp only [List.length_cons, List.length_nil]
      omega
    · cases h
  · rw [if_neg c1] at h
    by_cases c2 : 7 ≤ tK b n p ∧ tK b n p ≤ 15
    · rw [if_pos c2] at h
      obtain ⟨t1, t2⟩ := tk_st hp (show tK b n p ≠ 42 by omega)
      split at h
      · cases h
      · obtain ⟨f1, f2⟩ := inr_i h
        rw [← f1, ← f2]
        simp only [List.length_cons, List.length_nil]
        omega
    · rw [if_neg c2] at h
      by_cases c3 : tK b n p = 36 ∨ tK b n p = 33 ∨ tK b n p = 19 ∨ tK b n p = 20 ∨ tK b n p = 21
      · rw [if_pos c3] at h
        exact h2 p hp (by omega) c p' h
      · rw [if_neg c3] at h
        cases h
theorem ln_opn {one ask : Nat → Rs} (h1 : LnR b n one) (h2 : LnR b n ask) : ∀ p, p ≤ n → tK b n p ≠ 42 → ∀ c p', opnS b n one ask p = .inr (c, p') → p' ≤ n ∧ c.1.length + tS b n p ≤ tS b n p' ∧ c.2.length + tS b n p ≤ tS b n p' := fun p hp k42 c p' h => by
  obtain ⟨t1, t2⟩ := tk_st hp k42
  unfold opnS at h
  split at h
  · obtain ⟨c1, p1, e1, e2⟩ := bnd_i h
    obtain ⟨a1, a2, a3⟩ := ln_smr h1 _ t1 c1 p1 e1
    obtain ⟨x1, x2, x3, x4⟩ := ln_x a1 (by decide) e2
    rw [x1]
    omega
  · split at h
    · unfold chc at h
      obtain ⟨c1, p1, e1, g1⟩ := bnd_i h
      obtain ⟨a1, a2, a3⟩ := ln_eth h2 _ t1 c1 p1 e1
      obtain ⟨c2, p2, e2, g2⟩ := bnd_i g1
      obtain ⟨x0, -, x3, x4⟩ := ln_x a1 (by decide) e2
      obtain ⟨c3, p3, e3, g3⟩ := bnd_i g2
      obtain ⟨b1, b2, b3⟩ := ln_smr h1 _ x3 c3 p3 e3
      obtain ⟨c4, p4, e4, g4⟩ := bnd_i g3
      obtain ⟨y0, -, y3, y4⟩ := ln_x b1 (by decide) e4
      obtain ⟨c5, p5, e5, g5⟩ := bnd_i g4
      obtain ⟨d1, d2, d3⟩ := ln_smr h1 _ y3 c5 p5 e5
      obtain ⟨c6, p6, e6, g6⟩ := bnd_i g5
      obtain ⟨z0, -, z3, z4⟩ := ln_x d1 (by decide) e6
      obtain ⟨f1, f2⟩ := inr_i g6
      obtain ⟨l1, l2⟩ := cIf_l c2 c4 c6
      rw [x0, y0, z0] at l1 l2
      rw [← f1, ← f2, x0, y0, z0]
      omega
    · split at h
      · obtain ⟨c1, p1, e1, g1⟩ := bnd_i h
        obtain ⟨a1, a2, a3⟩ := h1 _ t1 c1 p1 e1
        obtain ⟨c2, p2, e2, g2⟩ := bnd_i g1
        obtain ⟨x0, -, x3, x4⟩ := ln_x a1 (by decide) e2
        obtain ⟨c3, p3, e3, g3⟩ := bnd_i g2
        obtain ⟨b1, b2, b3⟩ := h1 _ x3 c3 p3 e3
        obtain ⟨f1, f2⟩ := inr_i g3
        obtain ⟨l1, l2⟩ := cMn_l c2 c3
        rw [x0] at l1 l2
        rw [← f1, ← f2, x0]
        omega
      · obtain ⟨c1, p1, e1, g1⟩ := bnd_i h
        obtain ⟨a1, a2, a3⟩ := h1 _ t1 c1 p1 e1
        obtain ⟨f1, f2⟩ := inr_i g1
        obtain ⟨l1, l2⟩ := cU_l (tK b n p) c1
        rw [← f1, ← f2]
        omega
theorem ln_lv : ∀ D, LnR b n (lv1 b n L D).1 ∧ LnR b n (lv1 b n L D).2
  | 0 => by
    have h1 : LnR b n (oneS b n L (dpF b n)) := ln_one (fun p hp _ c p' h => by cases h)
    exact ⟨h1, ln_ask h1 (fun p hp _ c p' h => by cases h)⟩
  | D + 1 => by
    obtain ⟨i1, i2⟩ := ln_lv D
    have h1 : LnR b n (oneS b n L (opnS b n (lv1 b n L D).1 (lv1 b n L D).2)) := ln_one (ln_opn i1 i2)
    refine ⟨h1, ln_ask h1 (fun p hp k27 c p' h => ?_)⟩
    obtain ⟨t1, t2⟩ := tk_st hp (show tK b n p ≠ 42 by omega)
    obtain ⟨c1, p1, e1, h⟩ := bnd_i h
    obtain ⟨a1, a2, a3⟩ := i2 _ t1 c1 p1 e1
    obtain ⟨f1, f2⟩ := inr_i h
    obtain ⟨l1, l2⟩ := cNt_l c1
    rw [← f1, ← f2]
    omega
end Len
