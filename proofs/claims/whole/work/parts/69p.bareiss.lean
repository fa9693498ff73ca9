/-! elimination without fractions: the divisions are exact -/
def xB (m : Nat → Nat → Int) (k i j : Nat) : Int := m k k * m i j - m i k * m k j
def mB (r : Nat → Nat → Int) : Nat → (Nat → Nat → Int) × Int
  | 0 => (r, 1)
  | k + 1 => (fun i j => xB (mB r k).1 k i j / (mB r k).2, (mB r k).1 k k)
theorem mB_s {r : Nat → Nat → Int} {k i j : Nat} : (mB r (k + 1)).1 i j = xB (mB r k).1 k i j / (mB r k).2 := rfl
theorem mB_p {r : Nat → Nat → Int} {k : Nat} : (mB r (k + 1)).2 = (mB r k).1 k k := rfl
def rB (r : Nat → Nat → Int) (k i c : Nat) : Int := if c < k then 0 else (mB r k).1 i c
theorem Wd_c {u v w : Nat → Int} (h : ∀ c, c < 7 → u c = v c) : Wd u w = Wd v w := funext fun S => sI_c 7 (fun c hc => by rw [h c hc])
theorem pf_mul {r : Nat → Nat → Int} {k : Nat} {a : Int} {u w : Nat → Int} : pf r k (Wd (fun c => a * u c) w) = fun S => a * pf r k (Wd u w) S := by
  have e1 : Wd (fun c => a * u c) w = fun S => a * Wd u w S + 0 * Wd u w S := funext fun S => by
    rw [← Wd_lin]
    exact congrFun (Wd_c (fun c _ => by omega)) S
  rw [e1, pf_lin]
  funext S
  omega
theorem Wd_z {w : Nat → Int} : Wd (fun _ => (0 : Int)) w = fun _ => 0 := by
  funext S
  refine (sI_c (g := fun _ => 0) 7 (fun c _ => ?_)).trans (sI_0 7)
  rw [Int.mul_zero, Int.zero_mul]
theorem eqv_c {r : Nat → Nat → Int} {k : Nat} {u v : Nat → Int} (h : ∀ c, c < 7 → u c = v c) : eqv r k u v := fun w => by rw [Wd_c h]
theorem eqv_can {r : Nat → Nat → Int} {k : Nat} {a : Int} {u v : Nat → Int} (ha : a ≠ 0) (h : eqv r k (fun c => a * u c) (fun c => a * v c)) : eqv r k u v := fun w => by
  have h1 := h w
  rw [pf_mul, pf_mul] at h1
  funext S
  exact Int.eq_of_mul_eq_mul_left ha (congrFun h1 S)
/-- up to k every pivot was other than nought -/
def nzB (r : Nat → Nat → Int) (k : Nat) : Prop := ∀ l, l ≤ k → (mB r l).2 ≠ 0
def BzI (r : Nat → Nat → Int) (k : Nat) : Prop := dk r k = (mB r k).2 ∧ ∀ i, k ≤ i → i < 7 → eqv r k (fun c => (mB r k).2 * r i c) (rB r k i)
theorem bz_0 {r : Nat → Nat → Int} : BzI r 0 := ⟨rfl, fun i _ _ => eqv_c (fun c _ => by
  show 1 * r i c = if c < 0 then 0 else r i c
  rw [if_neg (by omega), Int.one_mul])⟩
/-- the next minor is the pivot -/
theorem bz_d {r : Nat → Nat → Int} {k : Nat} (hk : k < 7) (hd : (mB r k).2 ≠ 0) (h : BzI r k) : dk r (k + 1) = (mB r k).1 k k := by
  obtain ⟨h1, h2⟩ := h
  have e1 := congrFun (h2 k (Nat.le_refl _) hk (dlt (128 - 2 ^ k - 2 ^ k))) 127
  have e2 := pf_dlt (r := r) (u := rB r k k) (Nat.le_refl k) hk (fun c hc => if_pos hc)
  rw [pf_mul] at e1
  have e3 : (mB r k).2 * pf r k (Wd (r k) (dlt (128 - 2 ^ k - 2 ^ k))) 127 = sg (128 - 2 ^ k) k * rB r k k k * dk r k := e1.trans e2
  have e4 : rB r k k k = (mB r k).1 k k := if_neg (by omega)
  rw [mk_s k hk, sg_kk k hk, e4, h1, Int.one_mul, Int.mul_comm ((mB r k).1 k k)] at e3
  exact Int.eq_of_mul_eq_mul_left hd e3
theorem bz_x {r : Nat → Nat → Int} {k i : Nat} (hk : k < i) (hi : i < 7) (h : BzI r k) : eqv r (k + 1) (fun c => if c ≤ k then 0 else xB (mB r k).1 k i c) (fun c => (mB r k).2 * ((mB r k).1 k k * r i c)) := by
  obtain ⟨-, h2⟩ := h
  have e1 := eqv_s (h2 i (by omega) hi)
  have e2 := eqv_s (h2 k (Nat.le_refl _) (by omega))
  have e4 : eqv r (k + 1) (rB r k k) (fun _ => 0) := fun w => by
    rw [← e2 w, pf_mul, pf_dup (k + 1) w (show k < k + 1 by omega), Wd_z, pf_0]
    funext S
    exact Int.mul_zero _
  have e5 : eqv r (k + 1) (fun c => (mB r k).1 k k * rB r k i c + (-(mB r k).1 i k) * rB r k k c) (fun c => (mB r k).1 k k * ((mB r k).2 * r i c) + (-(mB r k).1 i k) * 0) := eqv_lin (fun w => (e1 w).symm) e4
  refine eqv_t (eqv_c (fun c _ => ?_)) (eqv_t e5 (eqv_c (fun c _ => ?_)))
  · unfold rB xB
    by_cases c1 : c < k
    · rw [if_pos (by omega), if_pos c1, if_pos c1]
      omega
    · rw [if_neg c1, if_neg c1]
      by_cases c2 : c = k
      · rw [if_pos (by omega), c2]
        grind
      · rw [if_neg (by omega)]
        grind
  · grind
theorem bz_q {r : Nat → Nat → Int} {k i j : Nat} (hk : k < i) (hi : i < 7) (hj : k < j) (j7 : j < 7) (hd : (mB r k).2 ≠ 0) (hp : (mB r k).1 k k ≠ 0) (h : BzI r k) : (mB r k).2 * (mB r (k + 1)).1 i j = xB (mB r k).1 k i j := by
  have e1 := congrFun (bz_x hk hi h (dlt (128 - 2 ^ (k + 1) - 2 ^ j))) 127
  have e2 := pf_dlt (r := r) (u := fun c => if c ≤ k then 0 else xB (mB r k).1 k i c) (show k + 1 ≤ j by omega) j7 (fun c hc => if_pos (by omega))
  have e0 : (fun c => (mB r k).2 * ((mB r k).1 k k * r i c)) = fun c => ((mB r k).2 * (mB r k).1 k k) * r i c := funext fun c => by grind
  rw [e0, pf_mul] at e1
  obtain ⟨Y, eY⟩ : ∃ Y, Y = pf r (k + 1) (Wd (r i) (dlt (128 - 2 ^ (k + 1) - 2 ^ j))) 127 := ⟨_, rfl⟩
  have e3 : sg (128 - 2 ^ (k + 1)) j * (if j ≤ k then 0 else xB (mB r k).1 k i j) * dk r (k + 1) = ((mB r k).2 * (mB r k).1 k k) * Y := by
    rw [eY]
    exact e2.symm.trans e1
  rw [if_neg (by omega), bz_d (by omega) hd h] at e3
  have e4 : sg (128 - 2 ^ (k + 1)) j * xB (mB r k).1 k i j = (mB r k).2 * Y := by
    refine Int.eq_of_mul_eq_mul_left hp ?_
    grind
  have dv : (mB r k).2 ∣ xB (mB r k).1 k i j := by
    rcases sg_pm (k + 1) (by omega) j j7 (by omega) with s | s
    · rw [s, Int.one_mul] at e4
      exact ⟨Y, e4⟩
    · rw [s] at e4
      exact ⟨-Y, by grind⟩
  rw [mB_s]
  exact Int.mul_ediv_cancel' dv
theorem bz_s {r : Nat → Nat → Int} {k : Nat} (hk : k < 7) (hd : (mB r k).2 ≠ 0) (hp : (mB r k).1 k k ≠ 0) (h : BzI r k) : BzI r (k + 1) := by
  refine ⟨bz_d hk hd h, fun i hi i7 => ?_⟩
  refine eqv_can hd ?_
  intro w
  have e1 := bz_x (show k < i by omega) i7 h w
  rw [mB_p]
  rw [← e1]
  refine congrArg (pf r (k + 1)) (Wd_c (fun c hc => ?_))
  unfold rB
  by_cases c1 : c ≤ k
  · rw [if_pos c1, if_pos (by omega), Int.mul_zero]
  · rw [if_neg c1, if_neg (by omega)]
    exact (bz_q (show k < i by omega) i7 (by omega) hc hd hp h).symm
