/-! the determinant counts the trees -/
def cR (P : Nat) : Nat := sm (fun j => if P.testBit j = true then 1 else 0) 12
theorem cR_64 : ∀ a, a < 64 → ∀ b, b < 64 → pcN (64 * a + b) = cR (64 * a + b) := by decide +kernel
theorem cR_pc (R : Nat) (h : R < 4096) : pcN R = cR R := by
  have e := cR_64 (R / 64) (by omega) (R % 64) (by omega)
  rwa [show 64 * (R / 64) + R % 64 = R by omega] at e
theorem cR_s {P k : Nat} (hP : P < 2 ^ k) (hk : k < 12) : cR (P + 2 ^ k) = cR P + 1 := by
  have e : cR (P + 2 ^ k) = sm (fun j => (if P.testBit j = true then 1 else 0) + (if j = k then 1 else 0)) 12 := sm_c 12 (fun j _ => by
    rw [ad_or hP, orb8]
    by_cases c : j = k
    · rw [c, decide_eq_true rfl, Bool.or_true, if_pos rfl, if_pos rfl, lt_tb hP (Nat.le_refl k), if_neg (by decide)]
    · rw [decide_eq_false (fun e => c e.symm), Bool.or_false, if_neg c, Nat.add_zero])
  rw [e, sm_add, sm_one, if_pos hk]
  rfl
def fT (A : Nat → Nat) (R : Nat) : Nat := if pcN R = 7 ∧ comp A 0 R = 255 then 1 else 0
theorem nC_1 {ρ : Nat → Nat} (h : ∀ i, i < 8 → ρ i = 7) : nC ρ = 1 := by
  have e : nC ρ = sm (fun i => if i = 7 then 1 else 0) 8 := sm_c 8 (fun i hi => by
    rw [h i hi]
    by_cases c : i = 7
    · rw [if_pos c, if_pos c.symm]
    · rw [if_neg c, if_neg (fun e => c e.symm)])
  rw [e, sm_one]
  rfl
theorem p2_s {P k : Nat} (h : P < 2 ^ k) : P + 2 ^ k < 2 ^ (k + 1) := by
  rw [Nat.pow_succ]
  omega
theorem p2_m {P k : Nat} (h : P < 2 ^ k) : P < 2 ^ (k + 1) := by
  rw [Nat.pow_succ]
  omega
/-- the two classes of a road that joins two -/
theorem two_c {A ρ : Nat → Nat} {P k : Nat} (a8 : eA A k < 8) (b8 : eB A k < 8) (h : RpI A ρ P k) (hn : ¬ ρ (eA A k) = ρ (eB A k)) : ∃ p q, p ≠ q ∧ p < 7 ∧ q < 8 ∧ ρ p = p ∧ ρ q = q ∧ (ρ (eA A k) = p ∧ ρ (eB A k) = q ∨ ρ (eA A k) = q ∧ ρ (eB A k) = p) := by
  obtain ⟨h1, -⟩ := h
  have x1 := h1 _ a8
  have x2 := h1 _ b8
  by_cases c : ρ (eA A k) = 7
  · exact ⟨ρ (eB A k), ρ (eA A k), fun e => hn e.symm, by omega, x1.1, x2.2, x1.2, Or.inr ⟨rfl, rfl⟩⟩
  · exact ⟨ρ (eA A k), ρ (eB A k), hn, by omega, x2.1, x1.2, x2.2, Or.inl ⟨rfl, rfl⟩⟩
theorem mt_z {A : Nat → Nat} (w : Wf A) : ∀ (m k P : Nat) (ρ : Nat → Nat), k + m = A 0 → P < 2 ^ k → RpI A ρ P k → 9 ≤ nC ρ + cR P → b1 (fT A) m k P = 0
  | 0, k, P, ρ, hk, hP, h, hn => by
    have l0 : A 0 ≤ 12 := w.1.1
    have hk' : k = A 0 := by omega
    rw [hk'] at h
    have l1 : 2 ^ k ≤ 4096 := p12 (by omega)
    show fT A P = 0
    refine if_neg (fun e => ?_)
    have n1 := nC_1 ((rp_end w h).mp e.2)
    have n2 := cR_pc P (by omega)
    have n3 := e.1
    omega
  | m + 1, k, P, ρ, hk, hP, h, hn => by
    have l0 : A 0 ≤ 12 := w.1.1
    obtain ⟨a8, b8, -⟩ := w.2.2.1.1 k (by omega)
    have cs := cR_s hP (show k < 12 by omega)
    have e2 := mt_z w m (k + 1) P ρ (by omega) (p2_m hP) (rp_skip hP h) hn
    rw [b1, e2]
    by_cases c : ρ (eA A k) = ρ (eB A k)
    · rw [mt_z w m (k + 1) (P + 2 ^ k) ρ (by omega) (p2_s hP) (rp_same hP c h) (by omega)]
    · obtain ⟨p, q, hpq, p7, q8, hp, hq, he⟩ := two_c a8 b8 h c
      have nn := nC_mg hpq hp hq (by omega)
      rw [mt_z w m (k + 1) (P + 2 ^ k) (mg ρ p q) (by omega) (p2_s hP) (rp_join hP a8 b8 hpq (by omega) hp hq q8 he h) (by omega)]
theorem mt_d {A : Nat → Nat} (w : Wf A) : ∀ (m k P : Nat) (ρ : Nat → Nat), k + m = A 0 → P < 2 ^ k → RpI A ρ P k → nC ρ + cR P = 8 → dk (RW (eA A) (eB A) ρ m k) 7 = (b1 (fT A) m k P : Int)
  | 0, k, P, ρ, hk, hP, h, hn => by
    have l0 : A 0 ≤ 12 := w.1.1
    have hk' : k = A 0 := by omega
    have h' := h
    rw [hk'] at h'
    have l1 : 2 ^ k ≤ 4096 := p12 (by omega)
    have n2 := cR_pc P (by omega)
    show _ = ((fT A P : Nat) : Int)
    by_cases c : ∀ i, i < 8 → ρ i = 7
    · have n1 := nC_1 c
      have e : fT A P = 1 := if_pos ⟨by omega, (rp_end w h').mpr c⟩
      rw [e]
      refine dk_1 (fun i hi c' hc => ?_) 7 (Nat.le_refl _)
      unfold RW
      rw [c i (by omega), if_neg (by omega)]
      unfold xr el
      rw [if_neg (show ¬ 7 = c' by omega), Int.sub_zero]
    · have e : fT A P = 0 := if_neg (fun e => c ((rp_end w h').mp e.2))
      rw [e]
      have ex : ∃ i, i < 8 ∧ ρ i ≠ 7 := Classical.byContradiction (fun hn => c (fun i hi => Classical.byContradiction (fun h7 => hn ⟨i, hi, h7⟩)))
      obtain ⟨i, hi, h7⟩ := ex
      have x := h.1 i hi
      exact congrFun (pf_z (p := ρ i) (show ρ i < 7 by omega) (fun c' _ => by
        unfold RW
        rw [if_pos x.2]
        rfl)) 127
  | m + 1, k, P, ρ, hk, hP, h, hn => by
    have l0 : A 0 ≤ 12 := w.1.1
    obtain ⟨a8, b8, -⟩ := w.2.2.1.1 k (by omega)
    have cs := cR_s hP (show k < 12 by omega)
    have e2 := mt_d w m (k + 1) P ρ (by omega) (p2_m hP) (rp_skip hP h) hn
    rw [b1]
    by_cases c : ρ (eA A k) = ρ (eB A k)
    · rw [mt_z w m (k + 1) (P + 2 ^ k) ρ (by omega) (p2_s hP) (rp_same hP c h) (by omega), Nat.zero_add, ← e2]
      exact congrFun (dt_same c) 127
    · obtain ⟨p, q, hpq, p7, q8, hp, hq, he⟩ := two_c a8 b8 h c
      have nn := nC_mg hpq hp hq (by omega)
      have e3 := mt_d w m (k + 1) (P + 2 ^ k) (mg ρ p q) (by omega) (p2_s hP) (rp_join hP a8 b8 hpq (by omega) hp hq q8 he h) (by omega)
      have e4 := congrFun (dt_merge (ea := eA A) (eb := eB A) (ρ := ρ) (m := m) (k := k) (w := dlt (128 - 2 ^ 7)) hpq p7 q8 hp hq he) 127
      rw [Int.natCast_add, ← e2, ← e3, Int.add_comm]
      exact e4
theorem mt_all {A : Nat → Nat} (w : Wf A) : dk (RW (eA A) (eB A) id (A 0) 0) 7 = (sm (fT A) (2 ^ A 0) : Int) := by
  rw [← b1_m]
  exact mt_d w (A 0) 0 0 id (by omega) (by decide) rp_0 (by decide)
