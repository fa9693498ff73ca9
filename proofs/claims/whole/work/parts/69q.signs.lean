/-! elimination: the signs are kept, a pivot nought is a row of noughts -/
def SgI (r : Nat → Nat → Int) (k : Nat) : Prop := 0 < (mB r k).2 ∧ (∀ i j, k ≤ i → i < 7 → k ≤ j → j < 7 → i ≠ j → (mB r k).1 i j ≤ 0) ∧ ∀ i, k ≤ i → i < 7 → 0 ≤ sI (rB r k i) 7
theorem sI_le {f g : Nat → Int} : ∀ n, (∀ i, i < n → f i ≤ g i) → sI f n ≤ sI g n
  | 0, _ => Int.le_refl _
  | n + 1, h => by
    have h1 := sI_le (f := f) (g := g) n (fun i hi => h i (by omega))
    have h2 := h n (by omega)
    rw [sI, sI]
    omega
/-- the member of the diagonal is not less than what another one lacks -/
theorem sg_dom {r : Nat → Nat → Int} {k i j : Nat} (h : SgI r k) (ki : k ≤ i) (i7 : i < 7) (kj : k ≤ j) (j7 : j < 7) (ij : i ≠ j) : -(mB r k).1 i j ≤ (mB r k).1 i i := by
  obtain ⟨-, h2, h3⟩ := h
  have a := h3 i ki i7
  have b : sI (rB r k i) 7 ≤ sI (fun c => 1 * (if c = i then (mB r k).1 i i else 0) + 1 * (if c = j then (mB r k).1 i j else 0)) 7 := sI_le 7 (fun c c7 => by
    unfold rB
    by_cases c1 : c < k
    · rw [if_pos c1, if_neg (by omega), if_neg (by omega)]
      omega
    · rw [if_neg c1]
      by_cases c2 : c = i
      · rw [if_pos c2, if_neg (by omega), c2]
        omega
      · by_cases c3 : c = j
        · rw [if_neg c2, if_pos c3, c3]
          omega
        · rw [if_neg c2, if_neg c3]
          have := h2 i c ki i7 (by omega) c7 (by omega)
          omega)
  rw [sI_lin, sI_one, sI_one, if_pos i7, if_pos j7] at b
  omega
theorem sg_ii {r : Nat → Nat → Int} {k i : Nat} (h : SgI r k) (ki : k ≤ i) (i7 : i < 7) : 0 ≤ (mB r k).1 i i := by
  obtain ⟨-, h2, h3⟩ := h
  have a := h3 i ki i7
  have b : sI (rB r k i) 7 ≤ sI (fun c => if c = i then (mB r k).1 i i else 0) 7 := sI_le 7 (fun c c7 => by
    unfold rB
    by_cases c1 : c < k
    · rw [if_pos c1, if_neg (by omega)]
      omega
    · rw [if_neg c1]
      by_cases c2 : c = i
      · rw [if_pos c2, c2]
        omega
      · rw [if_neg c2]
        exact h2 i c ki i7 (by omega) c7 (by omega))
  rw [sI_one, if_pos i7] at b
  omega
theorem sg_s {r : Nat → Nat → Int} {k : Nat} (hk : k < 7) (hp : (mB r k).1 k k ≠ 0) (hB : BzI r k) (h : SgI r k) : SgI r (k + 1) := by
  have p0 := sg_ii h (Nat.le_refl k) hk
  obtain ⟨h1, h2, h3⟩ := h
  have hd : (mB r k).2 ≠ 0 := by omega
  have pp : 0 < (mB r k).1 k k := by omega
  refine ⟨pp, fun i j ki i7 kj j7 ij => ?_, fun i ki i7 => ?_⟩
  · have e := bz_q (show k < i by omega) i7 (show k < j by omega) j7 hd hp hB
    have a1 := h2 i j (by omega) i7 (by omega) j7 ij
    have a2 := h2 i k (by omega) i7 (by omega) hk (by omega)
    have a3 := h2 k j (by omega) hk (by omega) j7 (by omega)
    unfold xB at e
    have b1 : (mB r k).1 k k * (mB r k).1 i j ≤ 0 := Int.mul_nonpos_of_nonneg_of_nonpos p0 a1
    have b2 : 0 ≤ (mB r k).1 i k * (mB r k).1 k j := Int.mul_nonneg_of_nonpos_of_nonpos a2 a3
    have b3 : (mB r k).2 * (mB r (k + 1)).1 i j ≤ 0 := by omega
    apply Classical.byContradiction
    intro hn
    have b4 := Int.mul_pos h1 (show 0 < (mB r (k + 1)).1 i j by omega)
    omega
  · have a1 := h3 i (by omega) i7
    have a2 := h3 k (Nat.le_refl _) hk
    have a3 := h2 i k (by omega) i7 (by omega) hk (by omega)
    have e : sI (fun c => (mB r k).2 * rB r (k + 1) i c) 7 = sI (fun c => (mB r k).1 k k * rB r k i c + (-(mB r k).1 i k) * rB r k k c) 7 := sI_c 7 (fun c c7 => by
      unfold rB
      by_cases c1 : c < k
      · rw [if_pos (by omega), if_pos c1, if_pos c1]
        omega
      · rw [if_neg c1, if_neg c1]
        by_cases c2 : c = k
        · rw [if_pos (by omega), c2]
          grind
        · rw [if_neg (by omega), bz_q (show k < i by omega) i7 (by omega) c7 hd hp hB]
          unfold xB
          grind)
    rw [sI_mul, sI_lin] at e
    have b1 : 0 ≤ (mB r k).1 k k * sI (rB r k i) 7 := Int.mul_nonneg p0 a1
    have b2 : 0 ≤ (-(mB r k).1 i k) * sI (rB r k k) 7 := Int.mul_nonneg (by omega) a2
    have b3 : 0 ≤ (mB r k).2 * sI (rB r (k + 1) i) 7 := by omega
    apply Classical.byContradiction
    intro hn
    have b4 := Int.mul_pos h1 (show 0 < -sI (rB r (k + 1) i) 7 by omega)
    rw [Int.mul_neg] at b4
    omega
theorem pf_app {r : Nat → Nat → Int} {k : Nat} (h : ∀ w, pf r k w = fun _ => 0) : ∀ m w, pf r (k + m) w = fun _ => 0
  | 0, w => h w
  | m + 1, w => pf_app h m _
theorem det_z {r : Nat → Nat → Int} {k : Nat} (hk : k < 7) (hp : (mB r k).1 k k = 0) (hB : BzI r k) (h : SgI r k) : dk r 7 = 0 := by
  have hd : (mB r k).2 ≠ 0 := by
    have := h.1
    omega
  have z : ∀ c, c < 7 → rB r k k c = 0 := fun c c7 => by
    unfold rB
    by_cases c1 : c < k
    · rw [if_pos c1]
    · rw [if_neg c1]
      by_cases c2 : c = k
      · rw [c2, hp]
      · have a1 := sg_dom h (Nat.le_refl k) hk (show k ≤ c by omega) c7 (by omega)
        have a2 := h.2.1 k c (Nat.le_refl _) hk (by omega) c7 (by omega)
        omega
  have e1 : eqv r k (fun c => (mB r k).2 * r k c) (fun _ => 0) := eqv_t (hB.2 k (Nat.le_refl _) hk) (eqv_c z)
  have e2 : ∀ w, pf r (k + 1) w = fun _ => 0 := fun w => by
    have e := e1 w
    rw [pf_mul, Wd_z, pf_0] at e
    funext S
    have e3 := congrFun e S
    exact (Int.mul_eq_zero.mp e3).resolve_left hd
  have e3 := pf_app e2 (6 - k) (dlt (128 - 2 ^ 7))
  rw [show k + 1 + (6 - k) = 7 by omega] at e3
  exact congrFun e3 127
/-- what the elimination answers -/
def brs (r : Nat → Nat → Int) : Nat → Nat → Int
  | 0, k => (mB r k).2
  | m + 1, k => if (mB r k).1 k k = 0 then 0 else brs r m (k + 1)
theorem brs_det {r : Nat → Nat → Int} : ∀ m k, k + m = 7 → BzI r k → SgI r k → brs r m k = dk r 7
  | 0, k, hk, hB, _ => by
    have : k = 7 := by omega
    subst this
    exact hB.1.symm
  | m + 1, k, hk, hB, h => by
    rw [brs]
    by_cases c : (mB r k).1 k k = 0
    · rw [if_pos c, det_z (by omega) c hB h]
    · have hd : (mB r k).2 ≠ 0 := by
        have := h.1
        omega
      rw [if_neg c]
      exact brs_det m (k + 1) (by omega) (bz_s (by omega) hd c hB) (sg_s (by omega) c hB h)
