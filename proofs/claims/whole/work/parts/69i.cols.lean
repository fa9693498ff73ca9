/-! colours: sums over sets -/
def W2 (A : Nat → Nat) (S : Nat) : Nat := sm (fun p => if p &&& S = p then on A p * on A (S - p) else 0) 256
theorem W2_b {A : Nat → Nat} {S : Nat} : W2 A S = b1 (fun p => if p &&& S = p then on A p * on A (S - p) else 0) 8 0 0 := b1_256.symm
theorem fs2_b {A : Nat → Nat} : ∀ (m k : Nat) (M : Nat → Nat), k + m = 8 → M 0 < 2 ^ k → M 1 + M 0 + 1 = 2 ^ k → fs A 2 m k M = b1 (fun p => on A p * on A (255 - p)) m k (M 0)
  | 0, k, M, hk, h0, h1 => by
    obtain rfl : k = 8 := by omega
    rw [fs, b1]
    show 1 * on A (M 0) * on A (M 1) = _
    rw [Nat.one_mul, show M 1 = 255 - M 0 by omega]
  | m + 1, k, M, hk, h0, h1 => by
    have p2 : 2 ^ (k + 1) = 2 ^ k + 2 ^ k := by rw [Nat.pow_succ]; omega
    rw [fs, b1]
    show 0 + fs A 2 m (k + 1) (upA M 0 (M 0 + 2 ^ k)) + fs A 2 m (k + 1) (upA M 1 (M 1 + 2 ^ k)) = _
    have a0 : upA M 0 (M 0 + 2 ^ k) 0 = M 0 + 2 ^ k := rfl
    have a1 : upA M 0 (M 0 + 2 ^ k) 1 = M 1 := rfl
    have b0 : upA M 1 (M 1 + 2 ^ k) 0 = M 0 := rfl
    have b1' : upA M 1 (M 1 + 2 ^ k) 1 = M 1 + 2 ^ k := rfl
    rw [fs2_b m (k + 1) (upA M 0 (M 0 + 2 ^ k)) (by omega) (by omega) (by omega), fs2_b m (k + 1) (upA M 1 (M 1 + 2 ^ k)) (by omega) (by omega) (by omega), a0, b0]
    omega
def f3 (A : Nat → Nat) (S P : Nat) : Nat := on A P * on A (S - P) * on A (255 - S)
theorem fs3_J {A : Nat → Nat} : ∀ (m k : Nat) (M : Nat → Nat) (S P : Nat), k + m = 8 → M 0 = P → M 1 + P = S → M 2 + S + 1 = 2 ^ k → fs A 3 m k M = J3 (f3 A) m k S P
  | 0, k, M, S, P, hk, h0, h1, h2 => by
    obtain rfl : k = 8 := by omega
    rw [fs, J3]
    show 1 * on A (M 0) * on A (M 1) * on A (M 2) = on A P * on A (S - P) * on A (255 - S)
    rw [Nat.one_mul, h0, show M 1 = S - P by omega, show M 2 = 255 - S by omega]
  | m + 1, k, M, S, P, hk, h0, h1, h2 => by
    have p2 : 2 ^ (k + 1) = 2 ^ k + 2 ^ k := by rw [Nat.pow_succ]; omega
    rw [fs, J3]
    show 0 + fs A 3 m (k + 1) (upA M 0 (M 0 + 2 ^ k)) + fs A 3 m (k + 1) (upA M 1 (M 1 + 2 ^ k)) + fs A 3 m (k + 1) (upA M 2 (M 2 + 2 ^ k)) = _
    have a0 : upA M 0 (M 0 + 2 ^ k) 0 = M 0 + 2 ^ k := rfl
    have a1 : upA M 0 (M 0 + 2 ^ k) 1 = M 1 := rfl
    have a2 : upA M 0 (M 0 + 2 ^ k) 2 = M 2 := rfl
    have b0 : upA M 1 (M 1 + 2 ^ k) 0 = M 0 := rfl
    have b1' : upA M 1 (M 1 + 2 ^ k) 1 = M 1 + 2 ^ k := rfl
    have b2 : upA M 1 (M 1 + 2 ^ k) 2 = M 2 := rfl
    have c0 : upA M 2 (M 2 + 2 ^ k) 0 = M 0 := rfl
    have c1 : upA M 2 (M 2 + 2 ^ k) 1 = M 1 := rfl
    have c2 : upA M 2 (M 2 + 2 ^ k) 2 = M 2 + 2 ^ k := rfl
    rw [fs3_J m (k + 1) (upA M 0 (M 0 + 2 ^ k)) (S + 2 ^ k) (P + 2 ^ k) (by omega) (by omega) (by omega) (by omega), fs3_J m (k + 1) (upA M 1 (M 1 + 2 ^ k)) (S + 2 ^ k) P (by omega) (by omega) (by omega) (by omega), fs3_J m (k + 1) (upA M 2 (M 2 + 2 ^ k)) S P (by omega) (by omega) (by omega) (by omega)]
    omega
def f4 (A : Nat → Nat) (S P Q : Nat) : Nat := on A P * on A (S - P) * (on A Q * on A (255 - S - Q))
theorem fs4_K {A : Nat → Nat} : ∀ (m k : Nat) (M : Nat → Nat) (S P Q : Nat), k + m = 8 → M 0 = P → M 1 + P = S → M 2 = Q → M 3 + S + Q + 1 = 2 ^ k → fs A 4 m k M = K4 (f4 A) m k S P Q
  | 0, k, M, S, P, Q, hk, h0, h1, h2, h3 => by
    obtain rfl : k = 8 := by omega
    rw [fs, K4]
    show 1 * on A (M 0) * on A (M 1) * on A (M 2) * on A (M 3) = on A P * on A (S - P) * (on A Q * on A (255 - S - Q))
    rw [Nat.one_mul, h0, show M 1 = S - P by omega, h2, show M 3 = 255 - S - Q by omega, Nat.mul_assoc]
  | m + 1, k, M, S, P, Q, hk, h0, h1, h2, h3 => by
    have p2 : 2 ^ (k + 1) = 2 ^ k + 2 ^ k := by rw [Nat.pow_succ]; omega
    rw [fs, K4]
    show 0 + fs A 4 m (k + 1) (upA M 0 (M 0 + 2 ^ k)) + fs A 4 m (k + 1) (upA M 1 (M 1 + 2 ^ k)) + fs A 4 m (k + 1) (upA M 2 (M 2 + 2 ^ k)) + fs A 4 m (k + 1) (upA M 3 (M 3 + 2 ^ k)) = _
    have a0 : upA M 0 (M 0 + 2 ^ k) 0 = M 0 + 2 ^ k := rfl
    have a1 : upA M 0 (M 0 + 2 ^ k) 1 = M 1 := rfl
    have a2 : upA M 0 (M 0 + 2 ^ k) 2 = M 2 := rfl
    have a3 : upA M 0 (M 0 + 2 ^ k) 3 = M 3 := rfl
    have b0 : upA M 1 (M 1 + 2 ^ k) 0 = M 0 := rfl
    have b1' : upA M 1 (M 1 + 2 ^ k) 1 = M 1 + 2 ^ k := rfl
    have b2 : upA M 1 (M 1 + 2 ^ k) 2 = M 2 := rfl
    have b3 : upA M 1 (M 1 + 2 ^ k) 3 = M 3 := rfl
    have c0 : upA M 2 (M 2 + 2 ^ k) 0 = M 0 := rfl
    have c1 : upA M 2 (M 2 + 2 ^ k) 1 = M 1 := rfl
    have c2 : upA M 2 (M 2 + 2 ^ k) 2 = M 2 + 2 ^ k := rfl
    have c3 : upA M 2 (M 2 + 2 ^ k) 3 = M 3 := rfl
    have d0 : upA M 3 (M 3 + 2 ^ k) 0 = M 0 := rfl
    have d1 : upA M 3 (M 3 + 2 ^ k) 1 = M 1 := rfl
    have d2 : upA M 3 (M 3 + 2 ^ k) 2 = M 2 := rfl
    have d3 : upA M 3 (M 3 + 2 ^ k) 3 = M 3 + 2 ^ k := rfl
    rw [fs4_K m (k + 1) (upA M 0 (M 0 + 2 ^ k)) (S + 2 ^ k) (P + 2 ^ k) Q (by omega) (by omega) (by omega) (by omega) (by omega), fs4_K m (k + 1) (upA M 1 (M 1 + 2 ^ k)) (S + 2 ^ k) P Q (by omega) (by omega) (by omega) (by omega) (by omega), fs4_K m (k + 1) (upA M 2 (M 2 + 2 ^ k)) S P (Q + 2 ^ k) (by omega) (by omega) (by omega) (by omega) (by omega), fs4_K m (k + 1) (upA M 3 (M 3 + 2 ^ k)) S P Q (by omega) (by omega) (by omega) (by omega) (by omega)]
    omega
theorem col1 {A : Nat → Nat} : fs A 1 8 0 (fun _ => 0) = on A 255 := by
  have key : ∀ (m k : Nat) (M : Nat → Nat), k + m = 8 → M 0 + 1 = 2 ^ k → fs A 1 m k M = on A 255 := by
    intro m
    induction m with
    | zero =>
      intro k M hk h0
      obtain rfl : k = 8 := by omega
      rw [fs]
      show 1 * on A (M 0) = _
      rw [Nat.one_mul, show M 0 = 255 by omega]
    | succ m ih =>
      intro k M hk h0
      have p2 : 2 ^ (k + 1) = 2 ^ k + 2 ^ k := by rw [Nat.pow_succ]; omega
      rw [fs]
      show 0 + fs A 1 m (k + 1) (upA M 0 (M 0 + 2 ^ k)) = _
      have a0 : upA M 0 (M 0 + 2 ^ k) 0 = M 0 + 2 ^ k := rfl
      rw [ih (k + 1) _ (by omega) (by omega), Nat.zero_add]
  exact key 8 0 _ rfl rfl
theorem col2 {A : Nat → Nat} : fs A 2 8 0 (fun _ => 0) = W2 A 255 := by
  rw [fs2_b 8 0 (fun _ => 0) rfl (by decide) rfl, b1_256]
  exact sm_c 256 (fun p hp => (if_pos (and255 hp)).symm)
theorem col3 {A : Nat → Nat} : fs A 3 8 0 (fun _ => 0) = sm (fun S => W2 A S * on A (255 - S)) 256 := by
  rw [fs3_J 8 0 (fun _ => 0) 0 0 rfl rfl rfl rfl, ← bb_J 8 0 0 0 (by decide) (by decide) rfl (fun _ _ _ _ => trivial), b1_256]
  apply sm_c
  intro S _
  rw [b1_256]
  unfold W2
  rw [sm_m]
  apply sm_c
  intro p _
  by_cases c : p &&& S = p
  · rw [if_pos c, if_pos c]
    rfl
  · rw [if_neg c, if_neg c, Nat.zero_mul]
theorem col4 {A : Nat → Nat} : fs A 4 8 0 (fun _ => 0) = sm (fun S => W2 A S * W2 A (255 - S)) 256 := by
  rw [fs4_K 8 0 (fun _ => 0) 0 0 0 rfl rfl rfl rfl rfl]
  have e := jb_K (x := fun S P => on A P * on A (S - P)) (y := fun S Q => on A Q * on A (255 - S - Q)) 8 0 0 0 0 rfl (by decide) (by decide) (fun h => by cases h) rfl
  refine Eq.trans (Eq.trans (show K4 (f4 A) 8 0 0 0 0 = K4 (fun S P Q => on A P * on A (S - P) * (on A Q * on A (255 - S - Q))) 8 0 0 0 0 from rfl) e.symm) ?_
  rw [← bb_J 8 0 0 0 (by decide) (by decide) rfl (fun _ _ _ _ => trivial), b1_256]
  apply sm_c
  intro S _
  rw [b1_256, W2_b (S := 255 - S)]
  show _ = W2 A S * _
  unfold W2
  rw [sm_m]
  apply sm_c
  intro p _
  by_cases c : p &&& S = p
  · rw [if_pos c, if_pos c]
  · rw [if_neg c, if_neg c, Nat.zero_mul]
theorem an_2 {a b : Nat} : (a &&& b) / 2 = a / 2 &&& b / 2 := by
  apply Nat.eq_of_testBit_eq
  intro i
  rw [← Nat.testBit_succ, Nat.testBit_and, Nat.testBit_and, Nat.testBit_succ, Nat.testBit_succ]
theorem an_m {a b : Nat} : (a &&& b) % 2 = 1 ↔ a % 2 = 1 ∧ b % 2 = 1 := by
  have h : (a &&& b).testBit 0 = (a.testBit 0 && b.testBit 0) := Nat.testBit_and a b 0
  rw [Nat.testBit_zero, Nat.testBit_zero, Nat.testBit_zero] at h
  have := congrArg (fun x => x = true) h
  simp only [decide_eq_true_eq, Bool.and_eq_true] at this
  rw [this]
/-- nothing of S lies between -/
theorem sub_nx : ∀ (p S x : Nat), p &&& S = p → x &&& S = x → x < p → x ≤ (p - 1) &&& S := by
  intro p
  induction p using Nat.strongRecOn with
  | _ p ih =>
    intro S x hp hx hl
    have p1 : p / 2 &&& S / 2 = p / 2 := by rw [← an_2, hp]
    have x1 : x / 2 &&& S / 2 = x / 2 := by rw [← an_2, hx]
    have e1 := an_2 (a := p - 1) (b := S)
    by_cases c : p % 2 = 1
    · rw [show (p - 1) / 2 = p / 2 by omega, p1] at e1
      omega
    · have h2 := ih (p / 2) (by omega) (S / 2) (x / 2) p1 x1 (by omega)
      rw [show (p - 1) / 2 = p / 2 - 1 by omega] at e1
      by_cases c2 : x % 2 = 1
      · have c3 := (an_m.mp (by rw [hx]; exact c2) : x % 2 = 1 ∧ S % 2 = 1)
        have c4 := an_m.mpr (⟨by omega, c3.2⟩ : (p - 1) % 2 = 1 ∧ S % 2 = 1)
        omega
      · omega
theorem and_l {p S : Nat} (h : p &&& S = p) : p ≤ S := by
  have : p &&& S ≤ S := Nat.and_le_right
  omega
/-- what was added up, parts above p -/
def acS (f : Nat → Nat) (S p : Nat) : Nat := sm (fun x => if x &&& S = x ∧ p < x then f x else 0) 256
theorem ac_s {f : Nat → Nat} {S p : Nat} (hp : p &&& S = p) (h0 : 0 < p) (h8 : p < 256) : acS f S ((p - 1) &&& S) = acS f S p + f p := by
  unfold acS
  have e : f p = sm (fun x => if x = p then f p else 0) 256 := by rw [sm_one, if_pos h8]
  rw [e, ← sm_add]
  apply sm_c
  intro x _
  have l1 : (p - 1) &&& S ≤ p - 1 := Nat.and_le_left
  by_cases cx : x = p
  · rw [if_pos cx, if_pos ⟨by rw [cx]; exact hp, by omega⟩, if_neg (fun h => by omega), cx]
    omega
  · rw [if_neg cx]
    by_cases c : x &&& S = x ∧ p < x
    · rw [if_pos c, if_pos ⟨c.1, by omega⟩]
      rfl
    · rw [if_neg c, if_neg]
      rintro ⟨h1, h2⟩
      by_cases hl : x < p
      · have := sub_nx p S x hp h1 hl
        omega
      · exact c ⟨h1, by omega⟩
theorem ac_S {f : Nat → Nat} {S : Nat} : acS f S S = 0 := (sm_c (g := fun _ => 0) 256 (fun x _ => if_neg (fun h => by
  have := and_l h.1
  omega))).trans (sm_0 256)
theorem ac_0 {f : Nat → Nat} {S : Nat} : f 0 + acS f S 0 = sm (fun x => if x &&& S = x then f x else 0) 256 := by
  have e : f 0 = sm (fun x => if x = 0 then f 0 else 0) 256 := by rw [sm_one, if_pos (by decide)]
  unfold acS
  rw [e, ← sm_add]
  apply sm_c
  intro x _
  by_cases cx : x = 0
  · subst cx
    rw [if_pos rfl, if_neg (fun h => by omega), if_pos (Nat.zero_and S)]
    exact Nat.add_zero _
  · rw [if_neg cx]
    by_cases c : x &&& S = x
    · rw [if_pos ⟨c, by omega⟩, if_pos c, Nat.zero_add]
    · rw [if_neg (fun h => c h.1), if_neg c]
theorem on_1 {A : Nat → Nat} {S : Nat} : on A S ≤ 1 := by
  unfold on
  split <;> omega
theorem W2_le {A : Nat → Nat} {S : Nat} : W2 A S ≤ 256 := by
  have key : ∀ n, sm (fun p => if p &&& S = p then on A p * on A (S - p) else 0) n ≤ n := by
    intro n
    induction n with
    | zero => exact Nat.le_refl _
    | succ n ih =>
      rw [sm]
      have h1 := on_1 (A := A) (S := n)
      have h2 := on_1 (A := A) (S := S - n)
      have := Nat.mul_le_mul h1 h2
      split <;> omega
  exact key 256
section Cols
variable {sc : Sc} {d : Nat} {J : Nat → Nat → Int64} {T : Option Nat} {A : Nat → Nat}
theorem sp_one {I : Nat → Nat → Int32} {Q : Option Value → Mm → Prop} {S : Nat} (w : Wf A) (hS : S < 256) (k : ∀ S, S < 256 → I 74 S = nI (inR' A S)) : Rn sc d 73 0 [some (.ref 72), some (.int (nI S))] [] (K0, I, J, R1 T) Q = Q (some (.int (nI (on A S)))) (K0, I, J, R1 T) := by
  have e := k S hS
  have le := in_le (A := A) (S := S) w
  unfold on
  by_cases c : inR' A S = 0
  · rw [if_pos c]
    rw [c] at e
    simp (disch := first | assumption | omega | decide) only [x73_0, x73_1, x73_2, x73_3, x73_4, x73_5, x73_6, x73_7, x73_8, ↓reduceIte, Option.toList, List.nil_append, List.cons_append, nI_add, pk_mul, n_and, n_or, n_xor, nI_leI, nI_ltI, nI_eq, n_z, uI_s, uI_n, bI_n0, bI_n1, bT, bF, if_true, if_false, not_true, not_false_eq_true, pk_div, pk_rem, Nat.reduceEqDiff, Nat.reduceLeDiff, Nat.reduceLT, Nat.reduceAdd, Nat.reduceMul, Nat.reduceSub, Nat.not_lt_zero, Nat.zero_le, reduceCtorEq, ite_self, n_rem, and_self, and_true, true_and, and_false, false_and, e]
  · rw [if_neg c]
    simp (disch := first | assumption | omega | decide) only [x73_0, x73_1, x73_2, x73_3, x73_4, x73_5, x73_6, x73_7, x73_8, ↓reduceIte, Option.toList, List.nil_append, List.cons_append, nI_add, pk_mul, n_and, n_or, n_xor, nI_leI, nI_ltI, nI_eq, n_z, uI_s, uI_n, bI_n0, bI_n1, bT, bF, if_true, if_false, not_true, not_false_eq_true, pk_div, pk_rem, Nat.reduceEqDiff, Nat.reduceLeDiff, Nat.reduceLT, Nat.reduceAdd, Nat.reduceMul, Nat.reduceSub, Nat.not_lt_zero, Nat.zero_le, reduceCtorEq, ite_self, n_rem, and_self, and_true, true_and, and_false, false_and, e, c]
theorem sp_two2 {I : Nat → Nat → Int32} {S : Nat} (w : Wf A) (hS : S < 256) (k : ∀ S, S < 256 → I 74 S = nI (inR' A S)) : ∀ Q, Rn sc (d + 1) 74 0 [some (.ref 72), some (.int (nI S)), none, none] [] (K0, I, J, R1 T) Q = Q (some (.int (nI (W2 A S)))) (K0, I, J, R1 T) := by
  intro Q
  have loop : ∀ p, p &&& S = p → Rn sc (d + 1) 74 6 [some (.ref 72), some (.int (nI S)), some (.int (nI (on A S + acS (fun x => on A x * on A (S - x)) S p))), some (.int (nI p))] [] (K0, I, J, R1 T) Q = Q (some (.int (nI (W2 A S)))) (K0, I, J, R1 T) := by
    intro p
    induction p using Nat.strongRecOn with
    | _ p ih =>
      intro hp
      have lp := and_l hp
      by_cases c : p = 0
      · subst c
        have e0 : on A S + acS (fun x => on A x * on A (S - x)) S 0 = W2 A S := by
          have h := ac_0 (f := fun x => on A x * on A (S - x)) (S := S)
          have h2 : on A 0 * on A (S - 0) + acS (fun x => on A x * on A (S - x)) S 0 = W2 A S := h
          rw [on_0, Nat.one_mul] at h2
          exact h2
        rw [e0, x74_6]
        simp (disch := first | assumption | omega | decide) only [x74_7, x74_27, x74_28, ↓reduceIte, Option.toList, List.nil_append, List.cons_append, nI_add, pk_mul, n_and, n_or, n_xor, nI_leI, nI_ltI, nI_eq, n_z, uI_s, uI_n, bI_n0, bI_n1, bT, bF, if_true, if_false, not_true, not_false_eq_true, pk_div, pk_rem, Nat.reduceEqDiff, Nat.reduceLeDiff, Nat.reduceLT, Nat.reduceAdd, Nat.reduceMul, Nat.reduceSub, Nat.not_lt_zero, Nat.zero_le, reduceCtorEq, ite_self, n_rem, and_self, and_true, true_and, and_false, false_and, Nat.le_refl]
      · have c' : ¬ p ≤ 0 := by omega
        have l1 : (p - 1) &&& S ≤ p - 1 := Nat.and_le_left
        have es := ac_s (f := fun x => on A x * on A (S - x)) hp (by omega) (by omega)
        have hq : ((p - 1) &&& S) &&& S = (p - 1) &&& S := by rw [Nat.and_assoc, Nat.and_self]
        have nx := ih ((p - 1) &&& S) (by omega) hq
        rw [es] at nx
        have o1 := fun Q => sp_one (Q := Q) (sc := sc) (d := d) (J := J) (T := T) w (show p < 256 by omega) k
        have o2 := fun Q => sp_one (Q := Q) (sc := sc) (d := d) (J := J) (T := T) w (show S - p < 256 by omega) k
        rw [← nx, x74_6, ← Nat.add_assoc]
        simp (disch := first | assumption | omega | decide) only [x74_7, x74_8, x74_9, x74_10, x74_11, x74_12, x74_13, x74_14, x74_15, x74_16, x74_17, x74_18, x74_19, x74_20, x74_21, x74_22, x74_23, x74_24, x74_25, x74_26, ↓reduceIte, Option.toList, List.nil_append, List.cons_append, nI_add, pk_mul, n_and, n_or, n_xor, nI_leI, nI_ltI, nI_eq, n_z, uI_s, uI_n, bI_n0, bI_n1, bT, bF, if_true, if_false, not_true, not_false_eq_true, pk_div, pk_rem, Nat.reduceEqDiff, Nat.reduceLeDiff, Nat.reduceLT, Nat.reduceAdd, Nat.reduceMul, Nat.reduceSub, Nat.not_lt_zero, Nat.zero_le, reduceCtorEq, ite_self, n_rem, and_self, and_true, true_and, and_false, false_and, c', o1, n_sub lp, o2, n_sub (show 1 ≤ p by omega)]
  have o1 := fun Q => sp_one (Q := Q) (sc := sc) (d := d) (J := J) (T := T) w hS k
  have l0 := loop S (Nat.and_self S)
  rw [ac_S, Nat.add_zero] at l0
  simp (disch := first | assumption | omega | decide) only [x74_0, x74_1, x74_2, x74_3, x74_4, x74_5, ↓reduceIte, Option.toList, List.nil_append, List.cons_append, nI_add, pk_mul, n_and, n_or, n_xor, nI_leI, nI_ltI, nI_eq, n_z, uI_s, uI_n, bI_n0, bI_n1, bT, bF, if_true, if_false, not_true, not_false_eq_true, pk_div, pk_rem, Nat.reduceEqDiff, Nat.reduceLeDiff, Nat.reduceLT, Nat.reduceAdd, Nat.reduceMul, Nat.reduceSub, Nat.not_lt_zero, Nat.zero_le, reduceCtorEq, ite_self, n_rem, and_self, and_true, true_and, and_false, false_and, o1]
  exact l0
end Cols
