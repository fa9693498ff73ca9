/-! the streets' matrix: the same as the rows of all roads, its signs, how large -/
theorem ffN : ¬ (false = true) := by decide
def lpM (A : Nat → Nat) (i c : Nat) : Int := if i = c then (pcN (bes A i) : Int) else if (bes A i).testBit c = true then -1 else 0
theorem lr_e {ea eb ρ : Nat → Nat} {i c : Nat} : ∀ m k, lr ea eb ρ (m + 1) k i c = lr ea eb ρ m k i c + rwI i (ρ (ea (k + m))) (ρ (eb (k + m))) c
  | 0, k => rfl
  | m + 1, k => by
    rw [lr, lr_e m (k + 1), lr, show k + 1 + m = k + (m + 1) by omega]
    omega
theorem pc_or : ∀ x, x < 256 → ∀ b, b < 8 → pcN (x ||| 2 ^ b) = if x.testBit b = true then pcN x else pcN x + 1 := by decide +kernel
theorem bs_self {A : Nat → Nat} {h : Nat} : ∀ n, (∀ j, j < n → A (40 + 2 * j) ≠ A (40 + 2 * j + 1)) → (bsN A h n).testBit h = false
  | 0, _ => Nat.zero_testBit h
  | n + 1, hh => by
    have h2 := hh n (by omega)
    rw [bsN, Nat.testBit_or, bs_self n (fun j hj => hh j (by omega)), Bool.false_or]
    by_cases c : A (40 + 2 * n) = h
    · rw [if_pos c, Nat.testBit_two_pow, decide_eq_false]
      intro e
      exact h2 (c.trans e.symm)
    · rw [if_neg c]
      by_cases c2 : A (40 + 2 * n + 1) = h
      · rw [if_pos c2, Nat.testBit_two_pow, decide_eq_false]
        intro e
        exact c e
      · rw [if_neg c2]
        exact Nat.zero_testBit h
/-- a road that is new -/
theorem bs_new {A : Nat → Nat} {n h g : Nat} (w : Wf A) (hn : n < A 0) (hg : (A (40 + 2 * n) = h ∧ A (40 + 2 * n + 1) = g) ∨ (A (40 + 2 * n + 1) = h ∧ A (40 + 2 * n) = g)) : (bsN A h n).testBit g = false := by
  have ne := (w.2.2.1.1 n hn).2.2
  have hgh : g ≠ h := by
    rcases hg with ⟨h1, h2⟩ | ⟨h1, h2⟩ <;> omega
  cases c : (bsN A h n).testBit g
  · rfl
  · obtain ⟨j, hj, hr⟩ := (bs_bit hgh n).mp (tb_iff.mpr c)
    obtain ⟨q1, q2⟩ := w.2.2.1.2 n j hj hn
    exfalso
    rcases hg with ⟨a1, a2⟩ | ⟨a1, a2⟩ <;> rcases hr with ⟨b1, b2⟩ | ⟨b1, b2⟩
    · exact q1 ⟨b1.trans a1.symm, b2.trans a2.symm⟩
    · exact q2 ⟨b2.trans a2.symm, b1.trans a1.symm⟩
    · exact q2 ⟨b1.trans a1.symm, b2.trans a2.symm⟩
    · exact q1 ⟨b2.trans a2.symm, b1.trans a1.symm⟩
def lpN (A : Nat → Nat) (n i c : Nat) : Int := if i = c then (pcN (bsN A i n) : Int) else if (bsN A i n).testBit c = true then -1 else 0
theorem lp_lr {A : Nat → Nat} {i c : Nat} (w : Wf A) : ∀ n, n ≤ A 0 → lr (eA A) (eB A) id n 0 i c = lpN A n i c
  | 0, _ => by
    show 0 = lpN A 0 i c
    unfold lpN
    show 0 = if i = c then ((pcN 0 : Nat) : Int) else if (0 : Nat).testBit c = true then -1 else 0
    rw [pcN_0, Nat.zero_testBit, if_neg ffN]
    split <;> rfl
  | n + 1, hn => by
    have ih := lp_lr (i := i) (c := c) w n (by omega)
    have l8 : bsN A i n < 256 := bs_lt n (fun j hj => ⟨(w.2.2.1.1 j (by omega)).1, (w.2.2.1.1 j (by omega)).2.1⟩)
    obtain ⟨a8, b8, ab⟩ := w.2.2.1.1 n (by omega)
    have nw := fun g => bs_new (h := i) (g := g) w (show n < A 0 by omega)
    rw [lr_e, ih, Nat.zero_add]
    show lpN A n i c + rwI i (A (40 + 2 * n)) (A (40 + 2 * n + 1)) c = _
    unfold lpN rwI xr el
    rw [bsN]
    by_cases ca : A (40 + 2 * n) = i
    · have cb : ¬ A (40 + 2 * n + 1) = i := fun e => ab (ca.trans e.symm)
      have n1 := nw _ (Or.inl ⟨ca, rfl⟩)
      rw [if_pos ca, if_neg cb, if_pos ca, pc_or _ l8 _ b8, n1, if_neg ffN, Nat.testBit_or, Nat.testBit_two_pow]
      by_cases ci : i = c
      · subst ci
        rw [if_pos rfl, if_pos rfl, if_pos rfl, if_neg cb]
        omega
      · rw [if_neg ci, if_neg ci, if_neg ci]
        by_cases cc : A (40 + 2 * n + 1) = c
        · rw [cc] at n1
          rw [if_pos cc, n1, decide_eq_true cc, if_neg ffN, if_pos (Bool.or_true _)]
          omega
        · rw [if_neg cc, decide_eq_false cc, Bool.or_false]
          omega
    · rw [if_neg ca, if_neg ca]
      by_cases cb : A (40 + 2 * n + 1) = i
      · have n1 := nw _ (Or.inr ⟨cb, rfl⟩)
        rw [if_pos cb, if_pos cb, pc_or _ l8 _ a8, n1, if_neg ffN, Nat.testBit_or, Nat.testBit_two_pow]
        by_cases ci : i = c
        · subst ci
          rw [if_pos rfl, if_pos rfl, if_pos rfl, if_neg ca]
          omega
        · rw [if_neg ci, if_neg ci, if_neg ci]
          by_cases cc : A (40 + 2 * n) = c
          · rw [cc] at n1
            rw [if_pos cc, n1, decide_eq_true cc, if_neg ffN, if_pos (Bool.or_true _)]
            omega
          · rw [if_neg cc, decide_eq_false cc, Bool.or_false]
            omega
      · rw [if_neg cb, if_neg cb, Nat.or_zero]
        omega
theorem lp_det {A : Nat → Nat} (w : Wf A) : dk (lpM A) 7 = (sm (fT A) (2 ^ A 0) : Int) := by
  rw [← mt_all w]
  unfold dk
  refine congrFun (pf_c 7 _ (fun i _ c _ => ?_)) 127
  show lpM A i c = if i = i then lr (eA A) (eB A) id (A 0) 0 i c else _
  rw [if_pos rfl, lp_lr w _ (Nat.le_refl _)]
  rfl
theorem lp_row : ∀ x, x < 256 → ∀ i, i < 7 → 0 ≤ sI (fun c => if i = c then (pcN x : Int) else if x.testBit c = true then -1 else 0) 7 := by decide +kernel
theorem lp_sg {A : Nat → Nat} (w : Wf A) : SgI (lpM A) 0 := by
  refine ⟨show (0 : Int) < 1 by decide, fun i j _ _ _ _ ij => ?_, fun i _ i7 => ?_⟩
  · show lpM A i j ≤ 0
    unfold lpM
    rw [if_neg ij]
    split <;> decide
  · have := lp_row (bes A i) (bes_lt w) i i7
    have e : sI (rB (lpM A) 0 i) 7 = sI (fun c => if i = c then (pcN (bes A i) : Int) else if (bes A i).testBit c = true then -1 else 0) 7 := sI_c 7 (fun c _ => by
      unfold rB
      rw [if_neg (by omega)]
      rfl)
    rw [e]
    exact this
/-- the degrees and their sum -/
def dgr (A : Nat → Nat) (i : Nat) : Nat := pcN (bes A i)
theorem dg_sum {A : Nat → Nat} (w : Wf A) : ∀ n, n ≤ A 0 → sm (fun i => pcN (bsN A i n)) 8 ≤ 2 * n
  | 0, _ => by
    have e : sm (fun i => pcN (bsN A i 0)) 8 = sm (fun _ => 0) 8 := sm_c 8 (fun i _ => pcN_0)
    rw [e, sm_0]
    omega
  | n + 1, hn => by
    have ih := dg_sum w n (by omega)
    obtain ⟨a8, b8, ab⟩ := w.2.2.1.1 n (by omega)
    have le : sm (fun i => pcN (bsN A i (n + 1))) 8 ≤ sm (fun i => pcN (bsN A i n) + ((if i = A (40 + 2 * n) then 1 else 0) + (if i = A (40 + 2 * n + 1) then 1 else 0))) 8 := sm_le 8 (fun i _ => by
      have l8 : bsN A i n < 256 := bs_lt n (fun j hj => ⟨(w.2.2.1.1 j (by omega)).1, (w.2.2.1.1 j (by omega)).2.1⟩)
      rw [bsN]
      by_cases ca : A (40 + 2 * n) = i
      · rw [if_pos ca, if_pos ca.symm, pc_or _ l8 _ b8]
        split <;> omega
      · rw [if_neg ca, if_neg (fun e : i = A (40 + 2 * n) => ca e.symm)]
        by_cases cb : A (40 + 2 * n + 1) = i
        · rw [if_pos cb, if_pos cb.symm, pc_or _ l8 _ a8]
          split <;> omega
        · rw [if_neg cb, Nat.or_zero]
          omega)
    rw [sm_add, sm_add, sm_one, sm_one, if_pos a8, if_pos b8] at le
    omega
def pdN (g : Nat → Nat) : Nat → Nat
  | 0 => 1
  | k + 1 => pdN g k * g k
theorem pd_N {A : Nat → Nat} : ∀ k, pd (lpM A) k = (pdN (dgr A) k : Int)
  | 0 => rfl
  | k + 1 => by
    rw [pd, pd_N k, pdN, Int.natCast_mul]
    unfold lpM
    rw [if_pos rfl]
    rfl
theorem pd_cu {g : Nat → Nat} : ∀ k, pdN g k ^ 3 ≤ 3 ^ sm g k
  | 0 => (by decide : 1 ^ 3 ≤ 3 ^ 0)
  | k + 1 => by
    rw [pdN, sm, Nat.mul_pow, Nat.pow_add]
    exact Nat.mul_le_mul (pd_cu k) (cu_le _)
theorem sm_ge {g : Nat → Nat} {k i n : Nat} (hk : k ≤ i) (hi : i < n) : sm g k + g i ≤ sm g n := by
  have mono : ∀ m, sm g k ≤ sm g (k + m) := by
    intro m
    induction m with
    | zero => exact Nat.le_refl _
    | succ m ih =>
      show sm g k ≤ sm g (k + m) + g (k + m)
      omega
  have mono2 : ∀ m, sm g (i + 1) ≤ sm g (i + 1 + m) := by
    intro m
    induction m with
    | zero => exact Nat.le_refl _
    | succ m ih =>
      show sm g (i + 1) ≤ sm g (i + 1 + m) + g (i + 1 + m)
      omega
  have h1 := mono (i - k)
  have h2 := mono2 (n - (i + 1))
  rw [show k + (i - k) = i by omega] at h1
  rw [show i + 1 + (n - (i + 1)) = n by omega, sm] at h2
  omega
theorem cu_8 {x : Nat} (h : x ^ 3 ≤ 3 ^ 24) : x ≤ 6561 := by
  apply Nat.le_of_not_lt
  intro hx
  have h1 : 6562 ^ 3 ≤ x ^ 3 := Nat.pow_le_pow_left hx 3
  have h2 : ¬ 6562 ^ 3 ≤ 3 ^ 24 := by decide
  exact h2 (Nat.le_trans h1 h)
theorem dg_all {A : Nat → Nat} (w : Wf A) : sm (dgr A) 8 ≤ 24 := by
  have h := dg_sum w (A 0) (Nat.le_refl _)
  have l := w.1.1
  have e : sm (dgr A) 8 = sm (fun i => pcN (bsN A i (A 0))) 8 := rfl
  omega
theorem pd_b1 {A : Nat → Nat} {k i : Nat} (w : Wf A) (hk : k ≤ i) (hi : i < 8) : pdN (dgr A) k * dgr A i ≤ 6561 := by
  apply cu_8
  have s := sm_ge (g := dgr A) hk hi
  have d := dg_all w
  rw [Nat.mul_pow]
  refine Nat.le_trans (Nat.mul_le_mul (pd_cu k) (cu_le _)) ?_
  rw [← Nat.pow_add]
  exact Nat.pow_le_pow_right (by decide) (by omega)
theorem pd_b2 {A : Nat → Nat} {k : Nat} (w : Wf A) (hk : k ≤ 7) : pdN (dgr A) k ≤ 6561 := by
  apply cu_8
  have s := sm_ge (g := dgr A) (n := 8) hk (by omega)
  have d := dg_all w
  refine Nat.le_trans (pd_cu k) ?_
  exact Nat.pow_le_pow_right (by decide) (by omega)
/-- all that is known at a step of the elimination -/
def ElI (A : Nat → Nat) (k : Nat) : Prop := BzI (lpM A) k ∧ SgI (lpM A) k ∧ BnI (lpM A) k ∧ (mB (lpM A) k).2 ≤ pd (lpM A) k
theorem el_0 {A : Nat → Nat} (w : Wf A) : ElI A 0 := ⟨bz_0, lp_sg w, bn_0, Int.le_refl _⟩
theorem lp_dg {A : Nat → Nat} {i : Nat} : lpM A i i = (dgr A i : Int) := if_pos rfl
theorem el_s {A : Nat → Nat} {k : Nat} (hk : k < 7) (h : ElI A k) (hp : (mB (lpM A) k).1 k k ≠ 0) : ElI A (k + 1) := by
  obtain ⟨h1, h2, h3, h4⟩ := h
  have hd := h2.1
  refine ⟨bz_s hk (by omega) hp h1, sg_s hk hp h1 h2, bn_s hk hp h1 h2 h3, bn_p hk ?_ h3 h4⟩
  rw [lp_dg]
  omega
theorem el_d {A : Nat → Nat} {k : Nat} (w : Wf A) (hk : k ≤ 7) (h : ElI A k) : 0 < (mB (lpM A) k).2 ∧ (mB (lpM A) k).2 ≤ 6561 := by
  obtain ⟨-, h2, -, h4⟩ := h
  have b := pd_b2 w hk
  rw [pd_N] at h4
  exact ⟨h2.1, by omega⟩
theorem el_ii {A : Nat → Nat} {k i : Nat} (w : Wf A) (h : ElI A k) (ki : k ≤ i) (i7 : i < 7) : 0 ≤ (mB (lpM A) k).1 i i ∧ (mB (lpM A) k).1 i i ≤ 6561 := by
  obtain ⟨-, h2, h3, h4⟩ := h
  refine ⟨sg_ii h2 ki i7, ?_⟩
  have a := h3 i ki i7
  have b := pd_b1 w ki (show i < 8 by omega)
  rw [pd_N] at h4
  rw [lp_dg] at a
  have c := Int.mul_le_mul_of_nonneg_right h4 (show (0 : Int) ≤ (dgr A i : Int) by omega)
  rw [← Int.natCast_mul] at c
  omega
theorem el_ij {A : Nat → Nat} {k i j : Nat} (w : Wf A) (h : ElI A k) (ki : k ≤ i) (i7 : i < 7) (kj : k ≤ j) (j7 : j < 7) : -6561 ≤ (mB (lpM A) k).1 i j ∧ (mB (lpM A) k).1 i j ≤ 6561 := by
  have e := el_ii w h ki i7
  by_cases ij : i = j
  · subst ij
    omega
  · obtain ⟨-, h2, -, -⟩ := h
    have a := sg_dom h2 ki i7 kj j7 ij
    have b := h2.2.1 i j ki i7 kj j7 ij
    omega
theorem mul_b {x y : Int} (h1 : -6561 ≤ x ∧ x ≤ 6561) (h2 : -6561 ≤ y ∧ y ≤ 6561) : -43046721 ≤ x * y ∧ x * y ≤ 43046721 := by
  have q1 : 0 ≤ (6561 - x) * (6561 - y) := Int.mul_nonneg (by omega) (by omega)
  have q2 : 0 ≤ (6561 + x) * (6561 + y) := Int.mul_nonneg (by omega) (by omega)
  have q3 : 0 ≤ (6561 - x) * (6561 + y) := Int.mul_nonneg (by omega) (by omega)
  have q4 : 0 ≤ (6561 + x) * (6561 - y) := Int.mul_nonneg (by omega) (by omega)
  have e1 : (6561 - x) * (6561 - y) = 43046721 - 6561 * x - 6561 * y + x * y := by grind
  have e2 : (6561 + x) * (6561 + y) = 43046721 + 6561 * x + 6561 * y + x * y := by grind
  have e3 : (6561 - x) * (6561 + y) = 43046721 - 6561 * x + 6561 * y - x * y := by grind
  have e4 : (6561 + x) * (6561 - y) = 43046721 + 6561 * x - 6561 * y - x * y := by grind
  omega
theorem el_x {A : Nat → Nat} {k i j : Nat} (w : Wf A) (h : ElI A k) (ki : k < i) (i7 : i < 7) (kj : k < j) (j7 : j < 7) : -86093442 ≤ xB (mB (lpM A) k).1 k i j ∧ xB (mB (lpM A) k).1 k i j ≤ 86093442 := by
  have a1 := mul_b (el_ij w h (Nat.le_refl k) (by omega) (Nat.le_refl k) (by omega)) (el_ij w h (show k ≤ i by omega) i7 (show k ≤ j by omega) j7)
  have a2 := mul_b (el_ij w h (show k ≤ i by omega) i7 (Nat.le_refl k) (by omega)) (el_ij w h (Nat.le_refl k) (by omega) (show k ≤ j by omega) j7)
  unfold xB
  omega
