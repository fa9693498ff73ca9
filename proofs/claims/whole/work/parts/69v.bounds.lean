/-! elimination: how large the numbers grow -/
def BnI (r : Nat → Nat → Int) (k : Nat) : Prop := ∀ i, k ≤ i → i < 7 → (mB r k).1 i i ≤ (mB r k).2 * r i i
theorem bn_0 {r : Nat → Nat → Int} : BnI r 0 := fun i _ _ => by
  show r i i ≤ 1 * r i i
  omega
theorem bn_s {r : Nat → Nat → Int} {k : Nat} (hk : k < 7) (hp : (mB r k).1 k k ≠ 0) (hB : BzI r k) (h : SgI r k) (hn : BnI r k) : BnI r (k + 1) := fun i ki i7 => by
  have p0 := sg_ii h (Nat.le_refl k) hk
  obtain ⟨h1, h2, h3⟩ := h
  have e := bz_q (show k < i by omega) i7 (show k < i by omega) i7 (show (mB r k).2 ≠ 0 by omega) hp hB
  have a1 := h2 i k (by omega) i7 (by omega) hk (by omega)
  have a2 := h2 k i (by omega) hk (by omega) i7 (by omega)
  have b1 : 0 ≤ (mB r k).1 i k * (mB r k).1 k i := Int.mul_nonneg_of_nonpos_of_nonpos a1 a2
  have b2 : (mB r k).1 k k * (mB r k).1 i i ≤ (mB r k).1 k k * ((mB r k).2 * r i i) := Int.mul_le_mul_of_nonneg_left (hn i (by omega) i7) p0
  unfold xB at e
  rw [mB_p]
  have b3 : (mB r k).2 * (mB r (k + 1)).1 i i ≤ (mB r k).2 * ((mB r k).1 k k * r i i) := by
    have : (mB r k).2 * ((mB r k).1 k k * r i i) = (mB r k).1 k k * ((mB r k).2 * r i i) := by grind
    omega
  exact Int.le_of_mul_le_mul_left b3 h1
def pd (r : Nat → Nat → Int) : Nat → Int
  | 0 => 1
  | k + 1 => pd r k * r k k
theorem bn_p {r : Nat → Nat → Int} {k : Nat} (hk : k < 7) (hD : 0 ≤ r k k) (hn : BnI r k) (h : (mB r k).2 ≤ pd r k) : (mB r (k + 1)).2 ≤ pd r (k + 1) := by
  rw [mB_p, pd]
  have a := hn k (Nat.le_refl _) hk
  have b := Int.mul_le_mul_of_nonneg_right h hD
  omega
theorem cu_le : ∀ x : Nat, x ^ 3 ≤ 3 ^ x
  | 0 => by decide
  | 1 => by decide
  | 2 => by decide
  | x + 3 => by
    induction x with
    | zero => decide
    | succ x ih =>
      have e1 : (x + 1 + 3) ^ 3 ≤ 3 * (x + 3) ^ 3 := by
        have : 3 * (x + 3) ^ 3 = (x + 1 + 3) ^ 3 + (2 * x ^ 3 + 15 * x ^ 2 + 33 * x + 17) := by grind
        omega
      have e2 : 3 ^ (x + 1 + 3) = 3 * 3 ^ (x + 3) := by
        rw [show x + 1 + 3 = (x + 3) + 1 by omega, Nat.pow_succ, Nat.mul_comm]
      rw [e2]
      exact Nat.le_trans e1 (Nat.mul_le_mul_left 3 ih)
