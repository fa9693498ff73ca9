/-! guests into houses: rows, the fewest houses, the first row -/
def ldN (g r : Nat → Nat) (k h : Nat) : Nat := sm (fun i => if r i = h then g i else 0) k
def inU (g r : Nat → Nat) (k : Nat) : Nat := sm (fun h => if 0 < ldN g r k h then 1 else 0) 8
/-- the fewest houses when m guests from k on go to their places too -/
def mnP (g R : Nat → Nat) : Nat → Nat → (Nat → Nat) → Nat
  | 0, k, r => inU g r k
  | m + 1, k, r => mnG (fun h => if ldN g r k h + g k ≤ R h then mnP g R m (k + 1) (upA r k h) else 100) 100 8
def cP (g R : Nat → Nat) (m k : Nat) (r : Nat → Nat) (h : Nat) : Nat := if ldN g r k h + g k ≤ R h then mnP g R m (k + 1) (upA r k h) else 100
/-- the first row that has them -/
def ptP (g R : Nat → Nat) : Nat → Nat → (Nat → Nat) → Nat → Nat
  | 0, _, r => r
  | m + 1, k, r => ptP g R m (k + 1) (upA r k (fi (fun h => decide (cP g R m k r h = mnG (cP g R m k r) 100 8)) 8))
def pkA (g R : Nat → Nat) : Nat → Nat → (Nat → Nat) → Nat × (Nat → Int32) → Nat × (Nat → Int32)
  | 0, k, r, s => (inU g r k, fun i => if i < k then nI (r i) else s.2 i)
  | m + 1, k, r, s => foldS (fun h s => if ldN g r k h + g k ≤ R h ∧ inU g (upA r k h) (k + 1) < s.1 then pkA g R m (k + 1) (upA r k h) s else s) s 8
def chP (g R : Nat → Nat) (m k : Nat) (r : Nat → Nat) (h : Nat) (s : Nat × (Nat → Int32)) : Nat × (Nat → Int32) := if ldN g r k h + g k ≤ R h ∧ inU g (upA r k h) (k + 1) < s.1 then pkA g R m (k + 1) (upA r k h) s else s
section Pack
variable {g R : Nat → Nat}
theorem mnP_s {m k : Nat} {r : Nat → Nat} : mnP g R (m + 1) k r = mnG (cP g R m k r) 100 8 := rfl
theorem ptP_s {m k : Nat} {r : Nat → Nat} : ptP g R (m + 1) k r = ptP g R m (k + 1) (upA r k (fi (fun h => decide (cP g R m k r h = mnG (cP g R m k r) 100 8)) 8)) := rfl
theorem pk_s {m k : Nat} {r : Nat → Nat} {s : Nat × (Nat → Int32)} : pkA g R (m + 1) k r s = foldS (chP g R m k r) s 8 := rfl
theorem ld_u {r : Nat → Nat} {k x h : Nat} : ldN g (upA r k x) (k + 1) h = ldN g r k h + (if x = h then g k else 0) := by
  unfold ldN
  rw [sm, upA_s]
  congr 1
  exact sm_c k (fun i hi => by rw [upA_n (by omega)])
theorem in_u {r : Nat → Nat} {k x : Nat} : inU g r k ≤ inU g (upA r k x) (k + 1) := sm_le 8 (fun h _ => by
  rw [ld_u]
  by_cases c : 0 < ldN g r k h
  · rw [if_pos c, if_pos (by omega)]
    exact Nat.le_refl _
  · rw [if_neg c]
    exact Nat.zero_le _)
theorem in_8 {r : Nat → Nat} {k : Nat} : inU g r k ≤ 8 := Nat.le_trans (sm_le (G := fun _ => 1) 8 (fun i _ => by
  split <;> omega)) (by decide)
theorem mn_100 : ∀ m k r, mnP g R m k r ≤ 100
  | 0, k, r => Nat.le_trans in_8 (by decide)
  | m + 1, k, r => by
    rw [mnP_s]
    exact (mnG_le 8).mpr (Or.inl (Nat.le_refl _))
theorem in_mn : ∀ m k r, inU g r k ≤ mnP g R m k r
  | 0, k, r => Nat.le_refl _
  | m + 1, k, r => by
    rw [mnP_s]
    have i8 := in_8 (g := g) (r := r) (k := k)
    rcases (mnG_le (f := cP g R m k r) (a := 100) 8).mp (Nat.le_refl _) with h | ⟨i, hi, h⟩
    · omega
    · unfold cP at h
      split at h
      · have h1 := in_mn m (k + 1) (upA r k i)
        have h2 := in_u (g := g) (r := r) (k := k) (x := i)
        unfold cP
        omega
      · unfold cP
        omega
theorem mn_8 : ∀ m k r, mnP g R m k r < 100 → mnP g R m k r ≤ 8
  | 0, k, r, _ => in_8
  | m + 1, k, r, hl => by
    rw [mnP_s] at hl ⊢
    rcases (mnG_le (f := cP g R m k r) (a := 100) 8).mp (Nat.le_refl _) with h | ⟨i, hi, h⟩
    · omega
    · have h3 := (mnG_le (f := cP g R m k r) (a := 100) (v := cP g R m k r i) 8).mpr (Or.inr ⟨i, hi, Nat.le_refl _⟩)
      have e : cP g R m k r i = mnG (cP g R m k r) 100 8 := by omega
      rw [← e] at hl ⊢
      unfold cP at hl ⊢
      split at hl
      · next c =>
        rw [if_pos c]
        exact mn_8 m (k + 1) (upA r k i) hl
      · omega
theorem mnG_at {c : Nat → Nat} {n : Nat} (h : mnG c 100 n < 100) : fi (fun h => decide (c h = mnG c 100 n)) n < n ∧ c (fi (fun h => decide (c h = mnG c 100 n)) n) = mnG c 100 n := by
  obtain ⟨p1, p2, p3⟩ := fi_sp (f := fun h => decide (c h = mnG c 100 n)) n
  have lt : fi (fun h => decide (c h = mnG c 100 n)) n < n := by
    apply Classical.byContradiction
    intro hc
    rcases (mnG_le (f := c) (a := 100) n).mp (Nat.le_refl _) with h1 | ⟨i, hi, h1⟩
    · omega
    · have h3 := (mnG_le (f := c) (a := 100) (v := c i) n).mpr (Or.inr ⟨i, hi, Nat.le_refl _⟩)
      have e : c i = mnG c 100 n := by omega
      have := p2 i (by omega)
      exact absurd e (of_decide_eq_false this)
  exact ⟨lt, of_decide_eq_true (p3 lt)⟩
theorem pt_r : ∀ m k r i, i < k → ptP g R m k r i = r i
  | 0, k, r, i, _ => rfl
  | m + 1, k, r, i, h => by
    rw [ptP_s, pt_r m (k + 1) _ i (by omega), upA_n (by omega)]
theorem pk_res : ∀ m k r (b : Nat) (F : Nat → Int32), b ≤ 100 → (m = 0 → inU g r k < b) → pkA g R m k r (b, F) = if mnP g R m k r < b then (mnP g R m k r, fun i => if i < k + m then nI (ptP g R m k r i) else F i) else (b, F)
  | 0, k, r, b, F, hs, h0 => by
    have c : mnP g R 0 k r < b := h0 rfl
    rw [if_pos c]
    rfl
  | m + 1, k, r, b, F, hs, _ => by
    rw [pk_s, mnP_s]
    obtain ⟨c, ec⟩ : ∃ c, c = cP g R m k r := ⟨_, rfl⟩
    have step : ∀ h (b : Nat) (F : Nat → Int32), b ≤ 100 → chP g R m k r h (b, F) = if c h < b then (c h, fun i => if i < k + (m + 1) then nI (ptP g R m (k + 1) (upA r k h) i) else F i) else (b, F) := by
      intro h b F ht
      rw [ec]
      show (if ldN g r k h + g k ≤ R h ∧ inU g (upA r k h) (k + 1) < b then pkA g R m (k + 1) (upA r k h) (b, F) else (b, F)) = _
      unfold cP
      by_cases c1 : ldN g r k h + g k ≤ R h
      · rw [if_pos c1]
        have le := in_mn (g := g) (R := R) m (k + 1) (upA r k h)
        by_cases c2 : inU g (upA r k h) (k + 1) < b
        · rw [if_pos ⟨c1, c2⟩, pk_res m (k + 1) (upA r k h) b F ht (fun _ => c2), show k + 1 + m = k + (m + 1) by omega]
        · rw [if_neg (fun q => c2 q.2), if_neg (by omega)]
      · rw [if_neg c1, if_neg (fun q => c1 q.1), if_neg (by omega)]
    have key : ∀ j, foldS (chP g R m k r) (b, F) j = if mnG c 100 j < b then (mnG c 100 j, fun i => if i < k + (m + 1) then nI (ptP g R m (k + 1) (upA r k (fi (fun h => decide (c h = mnG c 100 j)) j)) i) else F i) else (b, F) := by
      intro j
      induction j with
      | zero =>
        show (b, F) = _
        rw [mnG, if_neg (by omega)]
      | succ j ih =>
        rw [foldS_s, ih]
        by_cases c1 : mnG c 100 j < b
        · rw [if_pos c1, step _ _ _ (by omega)]
          by_cases c2 : c j < mnG c 100 j
          · have e1 : mnG c 100 (j + 1) = c j := if_pos c2
            have e2 : fi (fun h => decide (c h = c j)) (j + 1) = j := fi_u (by omega) (decide_eq_true rfl) (fun i hi => decide_eq_false (fun e => by
              have := (mnG_le (f := c) (a := 100) (v := c i) j).mpr (Or.inr ⟨i, hi, Nat.le_refl _⟩)
              omega))
            rw [if_pos c2, e1, e2, if_pos (by omega)]
            congr 1
            funext i
            by_cases ci : i < k + (m + 1)
            · rw [if_pos ci, if_pos ci]
            · rw [if_neg ci, if_neg ci, if_neg ci]
          · have e1 : mnG c 100 (j + 1) = mnG c 100 j := if_neg c2
            have e2 : fi (fun h => decide (c h = mnG c 100 j)) (j + 1) = fi (fun h => decide (c h = mnG c 100 j)) j := by
              rw [fi, if_pos (mnG_at (by omega)).1]
            rw [if_neg c2, e1, e2, if_pos c1]
        · rw [if_neg c1, step _ _ _ hs]
          by_cases c2 : c j < b
          · have c3 : c j < mnG c 100 j := by omega
            have e1 : mnG c 100 (j + 1) = c j := if_pos c3
            have e2 : fi (fun h => decide (c h = c j)) (j + 1) = j := fi_u (by omega) (decide_eq_true rfl) (fun i hi => decide_eq_false (fun e => by
              have := (mnG_le (f := c) (a := 100) (v := c i) j).mpr (Or.inr ⟨i, hi, Nat.le_refl _⟩)
              omega))
            rw [if_pos c2, e1, e2, if_pos c2]
          · have e1 : ¬ mnG c 100 (j + 1) < b := by
              rw [mnG]
              split <;> omega
            rw [if_neg c2, if_neg e1]
    rw [key 8, ← ec]
    by_cases c1 : mnG c 100 8 < b
    · rw [if_pos c1, if_pos c1, ptP_s, ← ec]
    · rw [if_neg c1, if_neg c1]
/-- what is in use, as a set -/
theorem sk_ld {r : Nat → Nat} {h : Nat} : ∀ k, (∀ i, i < k → 1 ≤ g i) → ((skV r k).testBit h = true ↔ 0 < ldN g r k h)
  | 0, _ => by
    rw [skV, Nat.zero_testBit]
    exact ⟨fun h => absurd h ffN, fun h => absurd h (Nat.lt_irrefl 0)⟩
  | k + 1, hg => by
    have ih := sk_ld (r := r) (h := h) k (fun i hi => hg i (by omega))
    have g1 := hg k (by omega)
    have e : ldN g r (k + 1) h = ldN g r k h + (if r k = h then g k else 0) := rfl
    rw [skV, Nat.testBit_or, Nat.testBit_two_pow, Bool.or_eq_true, ih, decide_eq_true_eq, e]
    by_cases c : r k = h
    · rw [if_pos c]
      exact ⟨fun _ => by omega, fun _ => Or.inr c⟩
    · rw [if_neg c]
      exact ⟨fun q => q.elim (fun q => by omega) (fun q => absurd q c), fun q => Or.inl (by omega)⟩
theorem pu_in {r : Nat → Nat} {k : Nat} (hg : ∀ i, i < k → 1 ≤ g i) (hr : ∀ i, i < k → r i < 8) : pcN (skV r k) = inU g r k := by
  rw [pc_cn _ (sk_lt k hr), cn_sm]
  exact sm_c 8 (fun h _ => by
    by_cases c : 0 < ldN g r k h
    · rw [if_pos c, if_pos ((sk_ld k hg).mpr c)]
    · rw [if_neg c, if_neg (fun q => c ((sk_ld k hg).mp q))])
theorem sS_k : ∀ k, k < 7 → ∀ m, m < 7 → k + (m + 1) ≤ 7 → 2 ^ (k + (m + 1)) - 2 ^ k = (2 ^ (k + 1 + m) - 2 ^ (k + 1)) ||| 2 ^ k ∧ (2 ^ (k + 1 + m) - 2 ^ (k + 1)).testBit k = false ∧ 2 ^ (k + 1 + m) - 2 ^ (k + 1) < 128 := by decide +kernel
theorem pc_pr {U h : Nat} (hU : U < 256) (hh : h < 8) : pcN (U ||| 2 ^ h) = pcN U + prU U h := by
  rw [pc_or U hU h hh]
  unfold prU
  split <;> omega
theorem pk_K : ∀ m k r v, k + m ≤ 7 → v < 100 → (∀ i, i < k + m → 1 ≤ g i) → (∀ i, i < k → r i < 8) → (mnP g R m k r ≤ v ↔ pcN (skV r k) ≤ v ∧ nd g (fun h => R h - ldN g r k h) (skV r k) 8 (2 ^ (k + m) - 2 ^ k) (v - pcN (skV r k)))
  | 0, k, r, v, hk, hv, hg, hr => by
    rw [pu_in (fun i hi => hg i (by omega)) hr, Nat.add_zero, Nat.sub_self]
    exact ⟨fun h => ⟨h, nd_0 8⟩, fun h => h.1⟩
  | m + 1, k, r, v, hk, hv, hg, hr => by
    obtain ⟨e1, e2, e3⟩ := sS_k k (by omega) m (by omega) hk
    have gk := hg k (by omega)
    have hU := sk_lt k hr
    have ih : ∀ x, x < 8 → (mnP g R m (k + 1) (upA r k x) ≤ v ↔ pcN (skV r k) + prU (skV r k) x ≤ v ∧ nd g (upA (fun h => R h - ldN g r k h) x (R x - ldN g r k x - g k)) (skV r k ||| 2 ^ x) 8 (2 ^ (k + 1 + m) - 2 ^ (k + 1)) (v - (pcN (skV r k) + prU (skV r k) x))) := by
      intro x hx
      have h1 := pk_K m (k + 1) (upA r k x) v (by omega) hv (fun i hi => hg i (by omega)) (fun i hi => by
        by_cases e : i = k
        · rw [upA_e e]; exact hx
        · rw [upA_n e]; exact hr i (by omega))
      rw [sk_u, pc_pr hU hx] at h1
      rw [h1]
      have fr : ∀ i, i < 8 → upA (fun h => R h - ldN g r k h) x (R x - ldN g r k x - g k) i = (fun h => R h - ldN g (upA r k x) (k + 1) h) i ∧ (skV r k ||| 2 ^ x).testBit i = (skV r k ||| 2 ^ x).testBit i := fun i _ => ⟨by
        show _ = R i - ldN g (upA r k x) (k + 1) i
        rw [ld_u]
        by_cases e : i = x
        · rw [upA_e e, e, if_pos rfl]
          omega
        · rw [upA_n e, if_neg (fun q => e q.symm)]
          rfl, rfl⟩
      exact ⟨fun ⟨a, b⟩ => ⟨a, nd_c 8 fr _ _ b⟩, fun ⟨a, b⟩ => ⟨a, nd_c 8 (fun i hi => ⟨(fr i hi).1.symm, rfl⟩) _ _ b⟩⟩
    rw [mnP_s, mnG_le, e1]
    constructor
    · rintro (h | ⟨x, hx, h⟩)
      · omega
      · unfold cP at h
        split at h
        · next c =>
          obtain ⟨q1, q2⟩ := (ih x hx).mp h
          refine ⟨by omega, nd_x2 (by omega) 8 _ _ (by omega) e2 ⟨x, hx, ?_, by omega, ?_⟩⟩
          · show g k ≤ R x - ldN g r k x
            omega
          · rw [Nat.sub_sub v]
            exact q2
        · omega
    · rintro ⟨h1, h2⟩
      obtain ⟨x, hx, q1, q2, q3⟩ := nd_x1 (by omega) 8 _ _ (by omega) e2 h2
      have q1 : g k ≤ R x - ldN g r k x := q1
      rw [Nat.sub_sub v] at q3
      refine Or.inr ⟨x, hx, ?_⟩
      unfold cP
      rw [if_pos (by omega)]
      exact (ih x hx).mpr ⟨by omega, q3⟩
theorem pk_N {m k : Nat} {r : Nat → Nat} {v : Nat} (hk : k + m ≤ 7) (hv : v < 100) (hg : ∀ i, i < k + m → 1 ≤ g i) (hr : ∀ i, i < k → r i < 8) : pcN (skV r k) + nN g (fun h => R h - ldN g r k h) (skV r k) 8 (2 ^ (k + m) - 2 ^ k) ≤ v ↔ mnP g R m k r ≤ v := by
  have l7 : 2 ^ (k + m) ≤ 128 := Nat.pow_le_pow_right (n := 2) (by decide) hk
  rw [pk_K m k r v hk hv hg hr]
  have := nN_nd (g := g) (l := fun h => R h - ldN g r k h) (U := skV r k) 8 (2 ^ (k + m) - 2 ^ k) (v - pcN (skV r k)) (Nat.lt_of_le_of_lt (Nat.sub_le _ _) (by omega)) (by omega)
  constructor
  · intro h
    exact ⟨by omega, this.mp (by omega)⟩
  · rintro ⟨h1, h2⟩
    have := this.mpr h2
    omega
end Pack
