/-! sums over sets as trees -/
theorem sm_2 {F : Nat → Nat} : ∀ n, sm F (2 * n) = sm (fun q => F (2 * q)) n + sm (fun q => F (2 * q + 1)) n
  | 0 => rfl
  | n + 1 => by
    rw [show 2 * (n + 1) = 2 * n + 1 + 1 by omega, sm, sm, sm, sm, sm_2 n]
    omega
theorem sm_m {F : Nat → Nat} {c : Nat} : ∀ n, sm F n * c = sm (fun q => F q * c) n
  | 0 => Nat.zero_mul c
  | n + 1 => by rw [sm, sm, Nat.add_mul, sm_m n]
def b1 (f : Nat → Nat) : Nat → Nat → Nat → Nat
  | 0, _, P => f P
  | m + 1, k, P => b1 f m (k + 1) (P + 2 ^ k) + b1 f m (k + 1) P
theorem b1_sm {f : Nat → Nat} : ∀ (m k P : Nat), b1 f m k P = sm (fun q => f (P + 2 ^ k * q)) (2 ^ m)
  | 0, k, P => by
    rw [b1]
    show f P = 0 + f (P + 2 ^ k * 0)
    rw [Nat.mul_zero, Nat.zero_add]
    rfl
  | m + 1, k, P => by
    rw [b1, b1_sm m, b1_sm m, show 2 ^ (m + 1) = 2 * 2 ^ m by rw [Nat.pow_succ, Nat.mul_comm], sm_2, Nat.add_comm]
    congr 1
    · apply sm_c
      intro q _
      rw [Nat.pow_succ, Nat.mul_assoc]
    · apply sm_c
      intro q _
      congr 1
      rw [Nat.pow_succ, Nat.mul_add, Nat.mul_assoc, Nat.mul_one]
      omega
theorem b1_256 {f : Nat → Nat} : b1 f 8 0 0 = sm f 256 := by
  rw [b1_sm]
  apply sm_c
  intro q _
  congr 1
  rw [Nat.pow_zero]
  omega
theorem b1_c {f g : Nat → Nat} {m k P : Nat} (h : ∀ q, q < 2 ^ m → f (P + 2 ^ k * q) = g (P + 2 ^ k * q)) : b1 f m k P = b1 g m k P := by
  rw [b1_sm, b1_sm]
  exact sm_c _ h
theorem b1_a {f g : Nat → Nat} {m k P : Nat} : b1 (fun S => f S + g S) m k P = b1 f m k P + b1 g m k P := by
  rw [b1_sm, b1_sm, b1_sm]
  exact sm_add _
theorem b1_z {m k P : Nat} : b1 (fun _ => 0) m k P = 0 := by
  rw [b1_sm]
  exact sm_0 _
theorem dk_t {S k q : Nat} (h : S < 2 ^ k) : (S + 2 ^ k * (2 * q + 1)).testBit k = true := by
  rw [← tb_iff, Nat.add_mul_div_left _ _ (Nat.two_pow_pos k), Nat.div_eq_of_lt h]
  omega
theorem dk_f {S k q : Nat} (h : S < 2 ^ k) : (S + 2 ^ k * (2 * q)).testBit k = false := by
  have h2 : ¬ (S + 2 ^ k * (2 * q)) / 2 ^ k % 2 = 1 := by
    rw [Nat.add_mul_div_left _ _ (Nat.two_pow_pos k), Nat.div_eq_of_lt h]
    omega
  cases c : (S + 2 ^ k * (2 * q)).testBit k
  · rfl
  · exact absurd (tb_iff.mpr c) h2
theorem up_t {S k q : Nat} : S + 2 ^ k + 2 ^ (k + 1) * q = S + 2 ^ k * (2 * q + 1) := by
  rw [Nat.pow_succ, Nat.mul_add, Nat.mul_one, Nat.mul_assoc]
  omega
theorem up_f {S k q : Nat} : S + 2 ^ (k + 1) * q = S + 2 ^ k * (2 * q) := by
  rw [Nat.pow_succ, Nat.mul_assoc]
theorem nsub {p S k : Nat} (h1 : p.testBit k = true) (h2 : S.testBit k = false) : ¬ p &&& S = p := fun e => by
  have : (p &&& S).testBit k = true := by rw [e]; exact h1
  rw [Nat.testBit_and, h2, Bool.and_false] at this
  cases this
/-- of three: in S and in P, in S alone, in neither -/
def J3 (f : Nat → Nat → Nat) : Nat → Nat → Nat → Nat → Nat
  | 0, _, S, P => f S P
  | m + 1, k, S, P => J3 f m (k + 1) (S + 2 ^ k) (P + 2 ^ k) + J3 f m (k + 1) (S + 2 ^ k) P + J3 f m (k + 1) S P
theorem J3_a {f g : Nat → Nat → Nat} : ∀ (m k S P : Nat), J3 (fun S P => f S P + g S P) m k S P = J3 f m k S P + J3 g m k S P
  | 0, k, S, P => rfl
  | m + 1, k, S, P => by
    rw [J3, J3, J3, J3_a m, J3_a m, J3_a m]
    omega
theorem J3_c {f g : Nat → Nat → Nat} : ∀ (m k S P : Nat), (∀ q P', q < 2 ^ m → f (S + 2 ^ k * q) P' = g (S + 2 ^ k * q) P') → J3 f m k S P = J3 g m k S P
  | 0, k, S, P, h => by
    have := h 0 P (by decide)
    rw [Nat.mul_zero] at this
    exact this
  | m + 1, k, S, P, h => by
    have h1 : ∀ q P', q < 2 ^ m → f (S + 2 ^ k + 2 ^ (k + 1) * q) P' = g (S + 2 ^ k + 2 ^ (k + 1) * q) P' := fun q P' hq => by
      rw [up_t]
      exact h _ _ (by rw [Nat.pow_succ]; omega)
    have h2 : ∀ q P', q < 2 ^ m → f (S + 2 ^ (k + 1) * q) P' = g (S + 2 ^ (k + 1) * q) P' := fun q P' hq => by
      rw [up_f]
      exact h _ _ (by rw [Nat.pow_succ]; omega)
    rw [J3, J3, J3_c m _ _ _ h1, J3_c m _ _ _ h1, J3_c m _ _ _ h2]
theorem bb_J {f : Nat → Nat → Nat} : ∀ (m k S P : Nat), S < 2 ^ k → P < 2 ^ k → P &&& S = P → (∀ S' P', S' < 2 ^ (k + m) → P' < 2 ^ (k + m) → True) → b1 (fun S' => b1 (fun p => if p &&& S' = p then f S' p else 0) m k P) m k S = J3 f m k S P
  | 0, k, S, P, _, _, h, _ => by
    rw [b1, b1, J3, if_pos h]
  | m + 1, k, S, P, hS, hP, h, _ => by
    have e1 : ∀ S0, b1 (fun S' => b1 (fun p => if p &&& S' = p then f S' p else 0) (m + 1) k P) m (k + 1) S0 = b1 (fun S' => b1 (fun p => if p &&& S' = p then f S' p else 0) m (k + 1) (P + 2 ^ k)) m (k + 1) S0 + b1 (fun S' => b1 (fun p => if p &&& S' = p then f S' p else 0) m (k + 1) P) m (k + 1) S0 := fun S0 => b1_a
    have p2 : 2 ^ (k + 1) = 2 ^ k + 2 ^ k := by rw [Nat.pow_succ]; omega
    have aS := ad_or hS
    have aP := ad_or hP
    have i1 : (P + 2 ^ k) &&& (S + 2 ^ k) = P + 2 ^ k := by
      rw [aS, aP]
      apply Nat.eq_of_testBit_eq
      intro i
      have hi : (P &&& S).testBit i = P.testBit i := by rw [h]
      rw [Nat.testBit_and] at hi
      rw [Nat.testBit_and, orb8, orb8]
      by_cases e : k = i
      · rw [decide_eq_true e, Bool.or_true, Bool.or_true]
        rfl
      · rw [decide_eq_false e, Bool.or_false, Bool.or_false]
        exact hi
    have i2 : P &&& (S + 2 ^ k) = P := by
      rw [aS]
      apply Nat.eq_of_testBit_eq
      intro i
      have hi : (P &&& S).testBit i = P.testBit i := by rw [h]
      rw [Nat.testBit_and] at hi
      rw [Nat.testBit_and, orb8]
      by_cases e : k = i
      · rw [decide_eq_true e, Bool.or_true, Bool.and_true]
      · rw [decide_eq_false e, Bool.or_false]
        exact hi
    have z : b1 (fun S' => b1 (fun p => if p &&& S' = p then f S' p else 0) m (k + 1) (P + 2 ^ k)) m (k + 1) S = 0 := by
      refine Eq.trans (b1_c (g := fun _ => 0) (fun q hq => ?_)) b1_z
      refine Eq.trans (b1_c (g := fun _ => 0) (fun q' hq' => ?_)) b1_z
      exact if_neg (by
        rw [up_t, up_f]
        exact nsub (dk_t hP) (dk_f hS))
    rw [b1, e1, e1, z, J3, bb_J m (k + 1) (S + 2 ^ k) (P + 2 ^ k) (by omega) (by omega) i1 (fun _ _ _ _ => trivial), bb_J m (k + 1) (S + 2 ^ k) P (by omega) (by omega) i2 (fun _ _ _ _ => trivial), bb_J m (k + 1) S P (by omega) (by omega) h (fun _ _ _ _ => trivial)]
    omega
/-- of four: a set and one in it, and one in what is left -/
def K4 (f : Nat → Nat → Nat → Nat) : Nat → Nat → Nat → Nat → Nat → Nat
  | 0, _, S, P, Q => f S P Q
  | m + 1, k, S, P, Q => K4 f m (k + 1) (S + 2 ^ k) (P + 2 ^ k) Q + K4 f m (k + 1) (S + 2 ^ k) P Q + K4 f m (k + 1) S P (Q + 2 ^ k) + K4 f m (k + 1) S P Q
theorem c255 {S k : Nat} (hS : S < 256) (hk : k < 8) : (255 - S).testBit k = !S.testBit k := by
  have : ∀ S, S < 256 → ∀ k, k < 8 → (255 - S).testBit k = !S.testBit k := by decide +kernel
  exact this S hS k hk
theorem jb_K {x : Nat → Nat → Nat} {y : Nat → Nat → Nat} : ∀ (m k S P Q : Nat), k + m = 8 → S < 2 ^ k → Q < 2 ^ k → (m = 0 → Q &&& (255 - S) = Q) → Q &&& S = 0 → J3 (fun S' P' => x S' P' * b1 (fun q => if q &&& (255 - S') = q then y S' q else 0) m k Q) m k S P = K4 (fun S P Q => x S P * y S Q) m k S P Q
  | 0, k, S, P, Q, _, _, _, h, _ => by
    rw [J3, K4, b1, if_pos (h rfl)]
  | m + 1, k, S, P, Q, hk, hS, hQ, h, hd => by
    have p2 : 2 ^ (k + 1) = 2 ^ k + 2 ^ k := by rw [Nat.pow_succ]; omega
    have s8 : ∀ q, q < 2 ^ m → ∀ S0, S0 < 2 ^ (k + 1) → S0 + 2 ^ (k + 1) * q < 256 := by
      intro q hq S0 h0
      have : 2 ^ (k + 1) * 2 ^ m = 256 := by rw [← Nat.pow_add, show k + 1 + m = 8 by omega]
      have := Nat.mul_le_mul_left (2 ^ (k + 1)) (show q + 1 ≤ 2 ^ m from hq)
      rw [Nat.mul_add, Nat.mul_one] at this
      omega
    have e1 : ∀ S0 P0, J3 (fun S' P' => x S' P' * b1 (fun q => if q &&& (255 - S') = q then y S' q else 0) (m + 1) k Q) m (k + 1) S0 P0 = J3 (fun S' P' => x S' P' * b1 (fun q => if q &&& (255 - S') = q then y S' q else 0) m (k + 1) (Q + 2 ^ k)) m (k + 1) S0 P0 + J3 (fun S' P' => x S' P' * b1 (fun q => if q &&& (255 - S') = q then y S' q else 0) m (k + 1) Q) m (k + 1) S0 P0 := fun S0 P0 => by
      rw [← J3_a]
      apply J3_c
      intro q P' _
      show _ * (_ + _) = _
      rw [Nat.mul_add]
    have z : ∀ P0, J3 (fun S' P' => x S' P' * b1 (fun q => if q &&& (255 - S') = q then y S' q else 0) m (k + 1) (Q + 2 ^ k)) m (k + 1) (S + 2 ^ k) P0 = 0 := fun P0 => by
      refine Eq.trans (J3_c (g := fun _ _ => 0) m (k + 1) _ _ (fun q P' hq => ?_)) ?_
      · have hz : b1 (fun r => if r &&& (255 - (S + 2 ^ k + 2 ^ (k + 1) * q)) = r then y (S + 2 ^ k + 2 ^ (k + 1) * q) r else 0) m (k + 1) (Q + 2 ^ k) = 0 := by
          refine Eq.trans (b1_c (g := fun _ => 0) (fun q' hq' => ?_)) b1_z
          exact if_neg (by
            have l := s8 q hq (S + 2 ^ k) (by omega)
            refine nsub (k := k) ?_ ?_
            · rw [up_t]
              exact dk_t hQ
            · rw [c255 l (by omega), up_t, dk_t hS]
              rfl)
        show x _ _ * b1 _ m (k + 1) (Q + 2 ^ k) = 0
        rw [hz, Nat.mul_zero]
      · have key : ∀ (m k S P : Nat), J3 (fun _ _ => 0) m k S P = 0 := by
          intro m
          induction m with
          | zero => intro k S P; rfl
          | succ m ih => intro k S P; rw [J3, ih, ih, ih]
        exact key _ _ _ _
    have c8 : k < 8 := by omega
    have s256 : S < 256 := Nat.lt_of_lt_of_le hS (Nat.pow_le_pow_right (show 0 < 2 by decide) (show k ≤ 8 by omega))
    have hb : ∀ i, Q.testBit i = true → S.testBit i = false := fun i hi => by
      cases c : S.testBit i
      · rfl
      · have : (Q &&& S).testBit i = true := by rw [Nat.testBit_and, hi, c]; rfl
        rw [hd, Nat.zero_testBit] at this
        cases this
    have dis1 : Q &&& (S + 2 ^ k) = 0 := by
      rw [ad_or hS]
      apply tb_eq0
      intro i
      rw [Nat.testBit_and, orb8]
      cases c : Q.testBit i
      · rfl
      · have ki : ¬ k = i := fun e => by
          subst e
          rw [lt_tb hQ (Nat.le_refl _)] at c
          cases c
        rw [hb i c, decide_eq_false ki]
        rfl
    have dis2 : (Q + 2 ^ k) &&& S = 0 := by
      rw [ad_or hQ]
      apply tb_eq0
      intro i
      rw [Nat.testBit_and, orb8]
      by_cases e : k = i
      · subst e
        rw [lt_tb hS (Nat.le_refl _), Bool.and_false]
      · rw [decide_eq_false e, Bool.or_false]
        cases c : Q.testBit i
        · rfl
        · rw [hb i c]
          rfl
    have sub : ∀ (Q' S' : Nat), Q' < 256 → S' < 256 → Q' &&& S' = 0 → Q' &&& (255 - S') = Q' := fun Q' S' h1 h2 h3 => by
      apply Nat.eq_of_testBit_eq
      intro i
      rw [Nat.testBit_and]
      cases c : Q'.testBit i
      · rfl
      · have i8 := tb_lt h1 c
        rw [c255 h2 i8]
        cases c2 : S'.testBit i
        · rfl
        · have : (Q' &&& S').testBit i = true := by rw [Nat.testBit_and, c, c2]; rfl
          rw [h3, Nat.zero_testBit] at this
          cases this
    have l9 : ∀ X, X < 2 ^ (k + 1) → m = 0 → X < 256 := fun X hX hm => by
      have : k + 1 = 8 := by omega
      rw [this] at hX
      exact hX
    rw [J3, K4, e1, e1, e1, z, z, jb_K m (k + 1) (S + 2 ^ k) (P + 2 ^ k) Q (by omega) (by omega) (by omega) (fun hm => sub _ _ (l9 _ (by omega) hm) (l9 _ (by omega) hm) dis1) dis1, jb_K m (k + 1) (S + 2 ^ k) P Q (by omega) (by omega) (by omega) (fun hm => sub _ _ (l9 _ (by omega) hm) (l9 _ (by omega) hm) dis1) dis1, jb_K m (k + 1) S P (Q + 2 ^ k) (by omega) (by omega) (by omega) (fun hm => sub _ _ (l9 _ (by omega) hm) (l9 _ (by omega) hm) dis2) dis2, jb_K m (k + 1) S P Q (by omega) (by omega) (by omega) (fun hm => sub _ _ (l9 _ (by omega) hm) (l9 _ (by omega) hm) hd) hd]
    omega
