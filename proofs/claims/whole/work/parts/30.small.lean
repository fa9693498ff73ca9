/-! small questions of both sides -/
theorem tb_eq {a b i j : Nat} (h : a.testBit i = b.testBit j) : a / 2 ^ i % 2 = b / 2 ^ j % 2 := by
  rw [Nat.testBit_eq_decide_div_mod_eq, Nat.testBit_eq_decide_div_mod_eq] at h
  have h1 := decide_eq_decide.mp h
  omega
theorem tb_t {a i : Nat} (h : a / 2 ^ i % 2 = 1) : a.testBit i = true := by
  rw [Nat.testBit_eq_decide_div_mod_eq]
  exact decide_eq_true h
theorem tb_f {a i : Nat} (h : ¬ a / 2 ^ i % 2 = 1) : a.testBit i = false := by
  rw [Nat.testBit_eq_decide_div_mod_eq]
  exact decide_eq_false h
theorem kp_bit {K : Nat → Nat} {r : Nat} : ∀ (n h : Nat), (kpN K r n).testBit h = (decide (h < n) && (K h).testBit r)
  | 0, h => by simp [kpN]
  | n + 1, h => by
    rw [kpN, Nat.testBit_or, kp_bit n h]
    by_cases hn : n = h
    · subst hn
      by_cases hb : K n / 2 ^ r % 2 = 1
      · rw [if_pos hb, tb_t hb]
        simp
      · rw [if_neg hb, tb_f hb]
        simp
    · have e : decide (h < n + 1) = decide (h < n) := by
        apply decide_eq_decide.mpr
        omega
      rw [e]
      by_cases hb : K n / 2 ^ r % 2 = 1
      · rw [if_pos hb, Nat.testBit_two_pow, decide_eq_false hn, Bool.or_false]
      · rw [if_neg hb, Nat.zero_testBit, Bool.or_false]
theorem kpr_bit {A : Nat → Nat} {r h : Nat} (hh : h < 8) : kpr A r / 2 ^ h % 2 = A (12 + h) / 2 ^ r % 2 := by
  apply tb_eq
  rw [kpr, kp_bit, decide_eq_true hh, Bool.true_and]
theorem kp_lt {K : Nat → Nat} {r : Nat} : ∀ (n : Nat), kpN K r n < 2 ^ n
  | 0 => by simp [kpN]
  | n + 1 => by
    rw [kpN]
    apply Nat.or_lt_two_pow
    · have := kp_lt (K := K) (r := r) n
      rw [Nat.pow_succ]
      omega
    · split
      · rw [Nat.pow_succ]
        have := Nat.two_pow_pos n
        omega
      · exact Nat.two_pow_pos _
theorem kpr_lt {A : Nat → Nat} {r : Nat} : kpr A r < 256 := kp_lt 8
theorem p2_lt {k : Nat} (h : k < 8) : 2 ^ k < 256 := by
  have := Nat.pow_le_pow_right (show 0 < 2 by decide) (show k ≤ 7 by omega)
  omega
theorem bs_lt {A : Nat → Nat} {h : Nat} : ∀ (n : Nat), (∀ j, j < n → A (40 + 2 * j) < 8 ∧ A (40 + 2 * j + 1) < 8) → bsN A h n < 256
  | 0, _ => by simp [bsN]
  | n + 1, hh => by
    rw [bsN]
    have h1 := hh n (by omega)
    apply Nat.or_lt_two_pow (n := 8)
    · exact bs_lt n (fun j hj => hh j (by omega))
    · split
      · exact p2_lt h1.2
      · split
        · exact p2_lt h1.1
        · decide
theorem bes_lt {A : Nat → Nat} {h : Nat} (w : Wf A) : bes A h < 256 := bs_lt _ (fun j hj => ⟨(w.2.2.1.1 j hj).1, (w.2.2.1.1 j hj).2.1⟩)
theorem ms_or (x n : Nat) : x % 2 ^ n ||| (x / 2 ^ n % 2) * 2 ^ n = x % 2 ^ (n + 1) := by
  rw [Nat.mod_pow_succ, Nat.mul_comm (x / 2 ^ n % 2), Nat.or_comm, ← Nat.two_pow_add_eq_or_of_lt (Nat.mod_lt _ (Nat.two_pow_pos n)), Nat.add_comm]
theorem inR_lt {x : Int32} {n : Nat} (h : ¬ inR x n) (hn : n < 2 ^ 31) (h0 : ¬ x < 0) : (nI n ≤ x) = True := by
  apply eq_true
  rcases inR_f h hn with h1 | h1
  · exact absurd h1 h0
  · exact h1
theorem sw_d {x : Int32} {n : Nat} {z : Int} (h : ¬ inR x (n + 1)) (hn : n + 1 < 2 ^ 31) (e : z = (n : Int)) : x.toInt < 0 ∨ z < x.toInt := by
  rcases inR_f h hn with h1 | h1
  · left
    have h2 := Int32.lt_iff_toInt_lt.mp h1
    rwa [nI_toInt (by decide)] at h2
  · right
    have h2 := Int32.le_iff_toInt_le.mp h1
    rw [nI_toInt hn] at h2
    omega
theorem inR_n {x : Int32} {n m : Nat} (h : ¬ inR x n) (hm : m < n) : (x = nI m) = False := eq_false (fun e => h ⟨m, hm, e⟩)
section Spec1
variable {sc : Sc} {d : Nat} {I : Nat → Nat → Int32} {J : Nat → Nat → Int64} {T : Option Nat} {Q : Option Value → Mm → Prop} {A : Nat → Nat}
theorem sp_houC_t {h : Nat} (hh : h < 8) : Rn sc d 164 0 [some (.int (nI h))] [] (K0, I, J, R1 T) Q = Q (some (.int (nI 1))) (K0, I, J, R1 T) := by
  rw [sp_isHouseC, bI_t]
  rw [nI_leI (by omega) (by omega), nI_leI (by omega) (by omega)]
  omega
theorem sp_houC_f {x : Int32} (hx : ¬ inR x 8) : Rn sc d 164 0 [some (.int x)] [] (K0, I, J, R1 T) Q = Q (some (.int (nI 0))) (K0, I, J, R1 T) := by
  rw [sp_isHouseC, bI_f]
  rw [nr_f hx (by decide)]
  exact fun h => h
theorem sp_houM_t {h : Nat} (hh : h < 8) : Rn sc (d + 1) 173 0 [some (.int (nI h))] [] (K0, I, J, R1 T) Q = Q (some (.int (nI 1))) (K0, I, J, R1 T) := by
  rw [sp_isHouse, bI_t]
  rw [nI_leI (by omega) (by omega), nI_leI (by omega) (by omega)]
  omega
theorem sp_houM_f {x : Int32} (hx : ¬ inR x 8) : Rn sc (d + 1) 173 0 [some (.int x)] [] (K0, I, J, R1 T) Q = Q (some (.int (nI 0))) (K0, I, J, R1 T) := by
  rw [sp_isHouse, bI_f]
  rw [nr_f hx (by decide)]
  exact fun h => h
theorem in_t {k lo hi : Nat} (h1 : lo ≤ k) (h2 : k ≤ hi) (h3 : hi < 2 ^ 31) : bI (nI lo ≤ nI k ∧ nI k ≤ nI hi) = nI 1 := by
  rw [bI_t]
  rw [nI_leI (by omega) (by omega), nI_leI (by omega) (by omega)]
  omega
theorem in_f {x : Int32} {hi : Nat} (h : ¬ inR x (hi + 1)) (h3 : hi + 1 < 2 ^ 31) : bI (nI 0 ≤ x ∧ x ≤ nI hi) = nI 0 := by
  rw [bI_f]
  rw [nr_f h h3]
  exact fun h => h
theorem in_l {k lo : Nat} {y : Int32} (h : k < lo) (h3 : lo < 2 ^ 31) : bI (nI lo ≤ nI k ∧ nI k ≤ y) = nI 0 := by
  rw [bI_f]
  rw [nI_leI (by omega) (by omega)]
  omega
theorem in_h {k hi : Nat} {y : Int32} (h : hi < k) (h3 : k < 2 ^ 31) : bI (y ≤ nI k ∧ nI k ≤ nI hi) = nI 0 := by
  rw [bI_f]
  rw [nI_leI (by omega) (by omega)]
  omega
theorem sp_rumC_ta {r n : Nat} (h : r < n) (hn : n ≤ 4) (e : I 1 10 = nI n) : Rn sc d 97 0 [some (.ref 1), some (.int (nI r))] [] (K0, I, J, R1 T) Q = Q (some (.int (nI 1))) (K0, I, J, R1 T) := by
  simp (disch := first | assumption | omega | decide) only [x97a_0, x97a_1, x97a_2, x97a_3, x97a_4, x97a_5, x97a_6, x97a_7, x97a_8, x97a_9, e, ↓reduceIte, Option.toList, List.nil_append, List.cons_append, nI_add, pk_mul, n_and, n_or, n_xor, nI_leI, nI_ltI, nI_eq, n_z, uI_s, uI_n, bI_n0, bI_n1, bT, bF, if_true, if_false, not_true, not_false_eq_true, pk_div, pk_rem, Nat.reduceEqDiff, Nat.reduceLeDiff, Nat.reduceLT, Nat.reduceAdd, Nat.reduceMul, Nat.reduceSub, Nat.not_lt_zero, Nat.zero_le, reduceCtorEq, ite_self, n_rem, and_self, and_true, true_and, and_false, false_and, Nat.not_lt_zero, Nat.not_le.mpr h]
theorem sp_rumC_fa {x : Int32} {n : Nat} (h : ¬ inR x n) (hn : n ≤ 4) (e : I 1 10 = nI n) : Rn sc d 97 0 [some (.ref 1), some (.int x)] [] (K0, I, J, R1 T) Q = Q (some (.int (nI 0))) (K0, I, J, R1 T) := by
  by_cases h0 : x < 0
  · simp (disch := first | assumption | omega | decide) only [x97a_0, x97a_1, x97a_2, x97a_3, x97a_4, x97a_5, x97a_6, x97a_7, x97a_8, x97a_9, e, h0, if_true]
  · simp (disch := first | assumption | omega | decide) only [x97a_0, x97a_1, x97a_2, x97a_3, x97a_4, x97a_5, x97a_6, x97a_7, x97a_8, x97a_9, e, h0, if_false, if_true, inR_lt h (by omega) h0]
theorem sp_txtC_ta {r n : Nat} (h : r < n) (hn : n ≤ 4) (e : I 1 14 = nI n) : Rn sc d 98 0 [some (.ref 1), some (.int (nI r))] [] (K0, I, J, R1 T) Q = Q (some (.int (nI 1))) (K0, I, J, R1 T) := by
  simp (disch := first | assumption | omega | decide) only [x98a_0, x98a_1, x98a_2, x98a_3, x98a_4, x98a_5, x98a_6, x98a_7, x98a_8, x98a_9, e, ↓reduceIte, Option.toList, List.nil_append, List.cons_append, nI_add, pk_mul, n_and, n_or, n_xor, nI_leI, nI_ltI, nI_eq, n_z, uI_s, uI_n, bI_n0, bI_n1, bT, bF, if_true, if_false, not_true, not_false_eq_true, pk_div, pk_rem, Nat.reduceEqDiff, Nat.reduceLeDiff, Nat.reduceLT, Nat.reduceAdd, Nat.reduceMul, Nat.reduceSub, Nat.not_lt_zero, Nat.zero_le, reduceCtorEq, ite_self, n_rem, and_self, and_true, true_and, and_false, false_and, Nat.not_lt_zero, Nat.not_le.mpr h]
theorem sp_txtC_fa {x : Int32} {n : Nat} (h : ¬ inR x n) (hn : n ≤ 4) (e : I 1 14 = nI n) : Rn sc d 98 0 [some (.ref 1), some (.int x)] [] (K0, I, J, R1 T) Q = Q (some (.int (nI 0))) (K0, I, J, R1 T) := by
  by_cases h0 : x < 0
  · simp (disch := first | assumption | omega | decide) only [x98a_0, x98a_1, x98a_2, x98a_3, x98a_4, x98a_5, x98a_6, x98a_7, x98a_8, x98a_9, e, h0, if_true]
  · simp (disch := first | assumption | omega | decide) only [x98a_0, x98a_1, x98a_2, x98a_3, x98a_4, x98a_5, x98a_6, x98a_7, x98a_8, x98a_9, e, h0, if_false, if_true, inR_lt h (by omega) h0]
theorem sp_keepsCa {h r : Nat} (hh : h < 8) (hr : r < A 1) (w : A 1 ≤ 4) (t : Twn I 1 2 3 4 5 6 7 8 9 A) : Rn sc d 99 0 [some (.ref 1), some (.int (nI h)), some (.int (nI r))] [] (K0, I, J, R1 T) Q = Q (some (.int (bI (A (12 + h) / 2 ^ r % 2 = 1)))) (K0, I, J, R1 T) := by
  have e := tw_keepers t hr
  have l : kpr A r < 256 := kpr_lt
  by_cases hb : A (12 + h) / 2 ^ r % 2 = 1
  · rw [bI_t hb]
    simp (disch := first | assumption | omega | decide) only [x99a_0, x99a_1, x99a_2, x99a_3, x99a_4, x99a_5, x99a_6, x99a_7, x99a_8, x99a_9, x99a_10, x99a_11, x99a_12, x99a_13, e, n_bit (show kpr A r < 2 ^ 31 by omega) (show h < 32 by omega), kpr_bit hh, hb, not_true, if_false]
  · have e1 : (nI (A (12 + h) / 2 ^ r % 2) = nI 1) = (A (12 + h) / 2 ^ r % 2 = 1) := propext (nI_eq (by omega) (by omega))
    rw [bI_f hb]
    simp (disch := first | assumption | omega | decide) only [x99a_0, x99a_1, x99a_2, x99a_3, x99a_4, x99a_5, x99a_6, x99a_7, x99a_8, x99a_9, x99a_10, x99a_11, x99a_12, x99a_13, e, n_bit (show kpr A r < 2 ^ 31 by omega) (show h < 32 by omega), kpr_bit hh, e1, hb, not_false_eq_true, if_true, if_false]
theorem lp_ata {h : Nat} (hh : h < 8) (w : A 1 ≤ 4) (t : Twn I 1 2 3 4 5 6 7 8 9 A) : Rn sc d 100 4 [some (.ref 1), some (.int (nI h)), some (.int (nI (A (12 + h) % 2 ^ 0))), some (.int (nI 0))] [] (K0, I, J, R1 T) Q = Rn sc d 100 4 [some (.ref 1), some (.int (nI h)), some (.int (nI (A (12 + h) % 2 ^ A 1))), some (.int (nI (A 1)))] [] (K0, I, J, R1 T) Q := by
  refine iter0 (fun j => Rn sc d 100 4 [some (.ref 1), some (.int (nI h)), some (.int (nI (A (12 + h) % 2 ^ j))), some (.int (nI j))] [] (K0, I, J, R1 T) Q) (A 1) ?_
  intro j hj
  show Rn _ _ _ _ _ _ _ _ = Rn _ _ _ _ _ _ _ _
  have e := tw_keepers t hj
  have e1 := tw_rumours t
  have l : kpr A j < 256 := kpr_lt
  have l2 : A (12 + h) / 2 ^ j % 2 < 2 := Nat.mod_lt _ (by decide)
  have l3 : (A (12 + h) / 2 ^ j % 2) * 2 ^ j < 2 ^ 32 := by
    have := p2_lt (show j < 8 by omega)
    have := Nat.mul_le_mul (show A (12 + h) / 2 ^ j % 2 ≤ 1 by omega) (Nat.le_refl (2 ^ j))
    omega
  rw [x100a_4]
  simp (disch := first | assumption | omega | decide) only [x100a_0, x100a_1, x100a_2, x100a_3, x100a_5, x100a_6, x100a_7, x100a_8, x100a_9, x100a_10, x100a_11, x100a_12, x100a_13, x100a_14, x100a_15, x100a_16, x100a_17, x100a_18, x100a_19, x100a_20, x100a_21, x100a_22, x100a_23, x100a_24, e, e1, nI_leI, Nat.not_le.mpr hj, if_false, n_bit (show kpr A j < 2 ^ 31 by omega) (show h < 32 by omega), kpr_bit hh, n_shl (show j < 32 by omega) l3, n_or, ms_or, nI_add]
theorem sp_atCa {h : Nat} {u2 u3 : Option Value} (hh : h < 8) (w : A 1 ≤ 4) (wk : A (12 + h) < 2 ^ A 1) (t : Twn I 1 2 3 4 5 6 7 8 9 A) : Rn sc d 100 0 [some (.ref 1), some (.int (nI h)), u2, u3] [] (K0, I, J, R1 T) Q = Q (some (.int (nI (A (12 + h))))) (K0, I, J, R1 T) := by
  simp (disch := first | assumption | omega | decide) only [x100a_0, x100a_1, x100a_2, x100a_3, x100a_5, x100a_6, x100a_7, x100a_8, x100a_9, x100a_10, x100a_11, x100a_12, x100a_13, x100a_14, x100a_15, x100a_16, x100a_17, x100a_18, x100a_19, x100a_20, x100a_21, x100a_22, x100a_23, x100a_24]
  have e1 := tw_rumours t
  have e0 := lp_ata (sc := sc) (d := d) (J := J) (T := T) (Q := Q) hh w t
  rw [Nat.pow_zero, Nat.mod_one, Nat.mod_eq_of_lt wk] at e0
  rw [e0, x100a_4]
  simp (disch := first | assumption | omega | decide) only [x100a_0, x100a_1, x100a_2, x100a_3, x100a_5, x100a_6, x100a_7, x100a_8, x100a_9, x100a_10, x100a_11, x100a_12, x100a_13, x100a_14, x100a_15, x100a_16, x100a_17, x100a_18, x100a_19, x100a_20, x100a_21, x100a_22, x100a_23, x100a_24, e1, nI_leI, Nat.le_refl, if_true]
theorem sp_rumC_tb {r n : Nat} (h : r < n) (hn : n ≤ 4) (e : I 19 10 = nI n) : Rn sc d 97 0 [some (.ref 19), some (.int (nI r))] [] (K0, I, J, R1 T) Q = Q (some (.int (nI 1))) (K0, I, J, R1 T) := by
  simp (disch := first | assumption | omega | decide) only [x97b_0, x97b_1, x97b_2, x97b_3, x97b_4, x97b_5, x97b_6, x97b_7, x97b_8, x97b_9, e, ↓reduceIte, Option.toList, List.nil_append, List.cons_append, nI_add, pk_mul, n_and, n_or, n_xor, nI_leI, nI_ltI, nI_eq, n_z, uI_s, uI_n, bI_n0, bI_n1, bT, bF, if_true, if_false, not_true, not_false_eq_true, pk_div, pk_rem, Nat.reduceEqDiff, Nat.reduceLeDiff, Nat.reduceLT, Nat.reduceAdd, Nat.reduceMul, Nat.reduceSub, Nat.not_lt_zero, Nat.zero_le, reduceCtorEq, ite_self, n_rem, and_self, and_true, true_and, and_false, false_and, Nat.not_lt_zero, Nat.not_le.mpr h]
theorem sp_rumC_fb {x : Int32} {n : Nat} (h : ¬ inR x n) (hn : n ≤ 4) (e : I 19 10 = nI n) : Rn sc d 97 0 [some (.ref 19), some (.int x)] [] (K0, I, J, R1 T) Q = Q (some (.int (nI 0))) (K0, I, J, R1 T) := by
  by_cases h0 : x < 0
  · simp (disch := first | assumption | omega | decide) only [x97b_0, x97b_1, x97b_2, x97b_3, x97b_4, x97b_5, x97b_6, x97b_7, x97b_8, x97b_9, e, h0, if_true]
  · simp (disch := first | assumption | omega | decide) only [x97b_0, x97b_1, x97b_2, x97b_3, x97b_4, x97b_5, x97b_6, x97b_7, x97b_8, x97b_9, e, h0, if_false, if_true, inR_lt h (by omega) h0]
theorem sp_txtC_tb {r n : Nat} (h : r < n) (hn : n ≤ 4) (e : I 19 14 = nI n) : Rn sc d 98 0 [some (.ref 19), some (.int (nI r))] [] (K0, I, J, R1 T) Q = Q (some (.int (nI 1))) (K0, I, J, R1 T) := by
  simp (disch := first | assumption | omega | decide) only [x98b_0, x98b_1, x98b_2, x98b_3, x98b_4, x98b_5, x98b_6, x98b_7, x98b_8, x98b_9, e, ↓reduceIte, Option.toList, List.nil_append, List.cons_append, nI_add, pk_mul, n_and, n_or, n_xor, nI_leI, nI_ltI, nI_eq, n_z, uI_s, uI_n, bI_n0, bI_n1, bT, bF, if_true, if_false, not_true, not_false_eq_true, pk_div, pk_rem, Nat.reduceEqDiff, Nat.reduceLeDiff, Nat.reduceLT, Nat.reduceAdd, Nat.reduceMul, Nat.reduceSub, Nat.not_lt_zero, Nat.zero_le, reduceCtorEq, ite_self, n_rem, and_self, and_true, true_and, and_false, false_and, Nat.not_lt_zero, Nat.not_le.mpr h]
theorem sp_txtC_fb {x : Int32} {n : Nat} (h : ¬ inR x n) (hn : n ≤ 4) (e : I 19 14 = nI n) : Rn sc d 98 0 [some (.ref 19), some (.int x)] [] (K0, I, J, R1 T) Q = Q (some (.int (nI 0))) (K0, I, J, R1 T) := by
  by_cases h0 : x < 0
  · simp (disch := first | assumption | omega | decide) only [x98b_0, x98b_1, x98b_2, x98b_3, x98b_4, x98b_5, x98b_6, x98b_7, x98b_8, x98b_9, e, h0, if_true]
  · simp (disch := first | assumption | omega | decide) only [x98b_0, x98b_1, x98b_2, x98b_3, x98b_4, x98b_5, x98b_6, x98b_7, x98b_8, x98b_9, e, h0, if_false, if_true, inR_lt h (by omega) h0]
theorem sp_keepsCb {h r : Nat} (hh : h < 8) (hr : r < A 1) (w : A 1 ≤ 4) (t : Twn I 19 20 21 22 23 24 25 26 27 A) : Rn sc d 99 0 [some (.ref 19), some (.int (nI h)), some (.int (nI r))] [] (K0, I, J, R1 T) Q = Q (some (.int (bI (A (12 + h) / 2 ^ r % 2 = 1)))) (K0, I, J, R1 T) := by
  have e := tw_keepers t hr
  have l : kpr A r < 256 := kpr_lt
  by_cases hb : A (12 + h) / 2 ^ r % 2 = 1
  · rw [bI_t hb]
    simp (disch := first | assumption | omega | decide) only [x99b_0, x99b_1, x99b_2, x99b_3, x99b_4, x99b_5, x99b_6, x99b_7, x99b_8, x99b_9, x99b_10, x99b_11, x99b_12, x99b_13, e, n_bit (show kpr A r < 2 ^ 31 by omega) (show h < 32 by omega), kpr_bit hh, hb, not_true, if_false]
  · have e1 : (nI (A (12 + h) / 2 ^ r % 2) = nI 1) = (A (12 + h) / 2 ^ r % 2 = 1) := propext (nI_eq (by omega) (by omega))
    rw [bI_f hb]
    simp (disch := first | assumption | omega | decide) only [x99b_0, x99b_1, x99b_2, x99b_3, x99b_4, x99b_5, x99b_6, x99b_7, x99b_8, x99b_9, x99b_10, x99b_11, x99b_12, x99b_13, e, n_bit (show kpr A r < 2 ^ 31 by omega) (show h < 32 by omega), kpr_bit hh, e1, hb, not_false_eq_true, if_true, if_false]
theorem lp_atb {h : Nat} (hh : h < 8) (w : A 1 ≤ 4) (t : Twn I 19 20 21 22 23 24 25 26 27 A) : Rn sc d 100 4 [some (.ref 19), some (.int (nI h)), some (.int (nI (A (12 + h) % 2 ^ 0))), some (.int (nI 0))] [] (K0, I, J, R1 T) Q = Rn sc d 100 4 [some (.ref 19), some (.int (nI h)), some (.int (nI (A (12 + h) % 2 ^ A 1))), some (.int (nI (A 1)))] [] (K0, I, J, R1 T) Q := by
  refine iter0 (fun j => Rn sc d 100 4 [some (.ref 19), some (.int (nI h)), some (.int (nI (A (12 + h) % 2 ^ j))), some (.int (nI j))] [] (K0, I, J, R1 T) Q) (A 1) ?_
  intro j hj
  show Rn _ _ _ _ _ _ _ _ = Rn _ _ _ _ _ _ _ _
  have e := tw_keepers t hj
  have e1 := tw_rumours t
  have l : kpr A j < 256 := kpr_lt
  have l2 : A (12 + h) / 2 ^ j % 2 < 2 := Nat.mod_lt _ (by decide)
  have l3 : (A (12 + h) / 2 ^ j % 2) * 2 ^ j < 2 ^ 32 := by
    have := p2_lt (show j < 8 by omega)
    have := Nat.mul_le_mul (show A (12 + h) / 2 ^ j % 2 ≤ 1 by omega) (Nat.le_refl (2 ^ j))
    omega
  rw [x100b_4]
  simp (disch := first | assumption | omega | decide) only [x100b_0, x100b_1, x100b_2, x100b_3, x100b_5, x100b_6, x100b_7, x100b_8, x100b_9, x100b_10, x100b_11, x100b_12, x100b_13, x100b_14, x100b_15, x100b_16, x100b_17, x100b_18, x100b_19, x100b_20, x100b_21, x100b_22, x100b_23, x100b_24, e, e1, nI_leI, Nat.not_le.mpr hj, if_false, n_bit (show kpr A j < 2 ^ 31 by omega) (show h < 32 by omega), kpr_bit hh, n_shl (show j < 32 by omega) l3, n_or, ms_or, nI_add]
theorem sp_atCb {h : Nat} {u2 u3 : Option Value} (hh : h < 8) (w : A 1 ≤ 4) (wk : A (12 + h) < 2 ^ A 1) (t : Twn I 19 20 21 22 23 24 25 26 27 A) : Rn sc d 100 0 [some (.ref 19), some (.int (nI h)), u2, u3] [] (K0, I, J, R1 T) Q = Q (some (.int (nI (A (12 + h))))) (K0, I, J, R1 T) := by
  simp (disch := first | assumption | omega | decide) only [x100b_0, x100b_1, x100b_2, x100b_3, x100b_5, x100b_6, x100b_7, x100b_8, x100b_9, x100b_10, x100b_11, x100b_12, x100b_13, x100b_14, x100b_15, x100b_16, x100b_17, x100b_18, x100b_19, x100b_20, x100b_21, x100b_22, x100b_23, x100b_24]
  have e1 := tw_rumours t
  have e0 := lp_atb (sc := sc) (d := d) (J := J) (T := T) (Q := Q) hh w t
  rw [Nat.pow_zero, Nat.mod_one, Nat.mod_eq_of_lt wk] at e0
  rw [e0, x100b_4]
  simp (disch := first | assumption | omega | decide) only [x100b_0, x100b_1, x100b_2, x100b_3, x100b_5, x100b_6, x100b_7, x100b_8, x100b_9, x100b_10, x100b_11, x100b_12, x100b_13, x100b_14, x100b_15, x100b_16, x100b_17, x100b_18, x100b_19, x100b_20, x100b_21, x100b_22, x100b_23, x100b_24, e1, nI_leI, Nat.le_refl, if_true]
theorem sp_rumM_t {r : Nat} (h : r < A 1) (w : A 1 ≤ 4) (e : I 90 1 = nI (A 1)) : Rn sc (d + 1) 174 0 [some (.ref 89), some (.int (nI r))] [] (K0, I, J, R1 T) Q = Q (some (.int (nI 1))) (K0, I, J, R1 T) := by
  simp (disch := first | assumption | omega | decide) only [x174_0, x174_1, x174_2, x174_3, x174_4, x174_5, x174_6, x174_7, x174_8, e, n_sub (show 1 ≤ A 1 by omega), sp_isIn, nI_leI, Nat.zero_le, true_and, Option.toList, List.cons_append, List.nil_append]
  rw [x174_9 (bI_01 _), bI_t (by omega)]
theorem sp_rumM_f {x : Int32} (h : ¬ inR x (A 1)) (w : A 1 ≤ 4) (e : I 90 1 = nI (A 1)) : Rn sc (d + 1) 174 0 [some (.ref 89), some (.int x)] [] (K0, I, J, R1 T) Q = Q (some (.int (nI 0))) (K0, I, J, R1 T) := by
  simp (disch := first | assumption | omega | decide) only [x174_0, x174_1, x174_2, x174_3, x174_4, x174_5, x174_6, x174_7, x174_8, e, sp_isIn, Option.toList, List.cons_append, List.nil_append]
  rw [x174_9 (bI_01 _), bI_f]
  rintro ⟨h1, h2⟩
  rcases inR_f h (by omega) with h3 | h3
  · exact absurd h3 (Int32.not_lt.mpr h1)
  · by_cases h0 : A 1 = 0
    · rw [h0] at h2
      have h4 := Int32.le_trans h1 h2
      exact absurd h4 (by decide)
    · rw [n_sub (by omega)] at h2
      exact absurd (Int32.le_trans h3 h2) (nI_ge (by omega) (by omega))
theorem sp_besM {h : Nat} {u2 u3 : Option Value} (hh : h < 8) (w : Wf A) (m : AtM I 90 A) : Rn sc d 175 0 [some (.ref 89), some (.int (nI h)), u2, u3] [] (K0, I, J, R1 T) Q = Q (some (.int (nI (bes A h)))) (K0, I, J, R1 T) := by
  have w0 : A 0 ≤ 12 := w.1.1
  have m' : ∀ k, k < 1799 → I 90 k = nI (A k) := m
  have e : Rn sc d 175 4 [some (.ref 89), some (.int (nI h)), some (.int (nI (bsN A h 0))), some (.int (nI (40 + 2 * 0)))] [] (K0, I, J, R1 T) Q = Rn sc d 175 4 [some (.ref 89), some (.int (nI h)), some (.int (nI (bsN A h (A 0)))), some (.int (nI (40 + 2 * A 0)))] [] (K0, I, J, R1 T) Q := by
    refine iter0 (fun j => Rn sc d 175 4 [some (.ref 89), some (.int (nI h)), some (.int (nI (bsN A h j))), some (.int (nI (40 + 2 * j)))] [] (K0, I, J, R1 T) Q) (A 0) ?_
    intro j hj
    show Rn _ _ _ _ _ _ _ _ = Rn _ _ _ _ _ _ _ _
    obtain ⟨w1, w2, w3⟩ := w.2.2.1.1 j hj
    have p1 := p2_lt w1
    have p2 := p2_lt w2
    rw [x175_4, bsN, show 40 + 2 * (j + 1) = 40 + 2 * j + 2 by omega]
    have hl : ¬ 40 + 2 * A 0 ≤ 40 + 2 * j := by omega
    by_cases h1 : A (40 + 2 * j) = h
    · simp (disch := first | assumption | omega | decide) only [x175_0, x175_1, x175_2, x175_3, x175_5, x175_6, x175_7, x175_8, x175_9, x175_10, x175_11, x175_12, x175_13, x175_14, x175_15, x175_16, x175_17, x175_18, x175_19, x175_20, x175_21, x175_22, x175_23, x175_24, x175_25, x175_26, x175_27, x175_28, x175_29, x175_30, x175_31, x175_32, x175_33, x175_34, x175_35, x175_36, x175_37, x175_38, x175_39, x175_40, x175_41, x175_42, x175_43, x175_44, x175_45, x175_46, x175_47, x175_48, x175_49, x175_50, x175_51, m', nI_add, pk_mul, nI_leI, nI_eq, h1, not_true, if_false, if_true, n_one, n_or, ↓reduceIte, hl]
    · by_cases h2 : A (40 + 2 * j + 1) = h
      · simp (disch := first | assumption | omega | decide) only [x175_0, x175_1, x175_2, x175_3, x175_5, x175_6, x175_7, x175_8, x175_9, x175_10, x175_11, x175_12, x175_13, x175_14, x175_15, x175_16, x175_17, x175_18, x175_19, x175_20, x175_21, x175_22, x175_23, x175_24, x175_25, x175_26, x175_27, x175_28, x175_29, x175_30, x175_31, x175_32, x175_33, x175_34, x175_35, x175_36, x175_37, x175_38, x175_39, x175_40, x175_41, x175_42, x175_43, x175_44, x175_45, x175_46, x175_47, x175_48, x175_49, x175_50, x175_51, m', nI_add, pk_mul, nI_leI, nI_eq, h1, h2, not_true, not_false_eq_true, if_false, if_true, n_one, n_or, ↓reduceIte, hl]
      · simp (disch := first | assumption | omega | decide) only [x175_0, x175_1, x175_2, x175_3, x175_5, x175_6, x175_7, x175_8, x175_9, x175_10, x175_11, x175_12, x175_13, x175_14, x175_15, x175_16, x175_17, x175_18, x175_19, x175_20, x175_21, x175_22, x175_23, x175_24, x175_25, x175_26, x175_27, x175_28, x175_29, x175_30, x175_31, x175_32, x175_33, x175_34, x175_35, x175_36, x175_37, x175_38, x175_39, x175_40, x175_41, x175_42, x175_43, x175_44, x175_45, x175_46, x175_47, x175_48, x175_49, x175_50, x175_51, m', nI_add, pk_mul, nI_leI, nI_eq, h1, h2, not_true, not_false_eq_true, if_false, if_true, n_one, n_or, ↓reduceIte, hl]
  simp (disch := first | assumption | omega | decide) only [x175_0, x175_1, x175_2, x175_3, x175_5, x175_6, x175_7, x175_8, x175_9, x175_10, x175_11, x175_12, x175_13, x175_14, x175_15, x175_16, x175_17, x175_18, x175_19, x175_20, x175_21, x175_22, x175_23, x175_24, x175_25, x175_26, x175_27, x175_28, x175_29, x175_30, x175_31, x175_32, x175_33, x175_34, x175_35, x175_36, x175_37, x175_38, x175_39, x175_40, x175_41, x175_42, x175_43, x175_44, x175_45, x175_46, x175_47, x175_48, x175_49, x175_50, x175_51]
  rw [show bsN A h 0 = 0 from rfl] at e
  rw [e, x175_4]
  simp (disch := first | assumption | omega | decide) only [x175_0, x175_1, x175_2, x175_3, x175_5, x175_6, x175_7, x175_8, x175_9, x175_10, x175_11, x175_12, x175_13, x175_14, x175_15, x175_16, x175_17, x175_18, x175_19, x175_20, x175_21, x175_22, x175_23, x175_24, x175_25, x175_26, x175_27, x175_28, x175_29, x175_30, x175_31, x175_32, x175_33, x175_34, x175_35, x175_36, x175_37, x175_38, x175_39, x175_40, x175_41, x175_42, x175_43, x175_44, x175_45, x175_46, x175_47, x175_48, x175_49, x175_50, x175_51, m', nI_add, pk_mul, nI_leI]
  rw [if_pos (by omega)]
  rfl
theorem sp_kpM {r : Nat} {u2 u3 : Option Value} (hr : r < 4) (w : Wf A) (m : AtM I 90 A) : Rn sc (d + 1) 176 0 [some (.ref 89), some (.int (nI r)), u2, u3] [] (K0, I, J, R1 T) Q = Q (some (.int (nI (kpr A r)))) (K0, I, J, R1 T) := by
  have m' : ∀ k, k < 1799 → I 90 k = nI (A k) := m
  have w1 : A 1 ≤ 4 := w.1.2.1
  have e : Rn sc (d + 1) 176 4 [some (.ref 89), some (.int (nI r)), some (.int (nI (kpN (fun h => A (12 + h)) r 0))), some (.int (nI 0))] [] (K0, I, J, R1 T) Q = Rn sc (d + 1) 176 4 [some (.ref 89), some (.int (nI r)), some (.int (nI (kpN (fun h => A (12 + h)) r 8))), some (.int (nI 8))] [] (K0, I, J, R1 T) Q := by
    refine iter0 (fun j => Rn sc (d + 1) 176 4 [some (.ref 89), some (.int (nI r)), some (.int (nI (kpN (fun h => A (12 + h)) r j))), some (.int (nI j))] [] (K0, I, J, R1 T) Q) 8 ?_
    intro j hj
    show Rn _ _ _ _ _ _ _ _ = Rn _ _ _ _ _ _ _ _
    have l : A (12 + j) < 2 ^ 31 := by
      have := w.2.1.1 j hj
      have := Nat.pow_le_pow_right (show 0 < 2 by decide) w1
      omega
    rw [x176_4, kpN]
    by_cases h1 : A (12 + j) / 2 ^ r % 2 = 1
    · simp (disch := first | assumption | omega | decide) only [x176_0, x176_1, x176_2, x176_3, x176_5, x176_6, x176_7, x176_8, x176_9, x176_10, x176_11, x176_12, x176_13, x176_14, x176_15, x176_16, x176_17, x176_18, x176_19, x176_20, x176_21, x176_22, x176_23, x176_24, x176_25, x176_26, x176_27, m', nI_add, nI_leI, Nat.not_le.mpr hj, sp_has, bI_t h1, Option.toList, List.cons_append, List.nil_append, n_z, nI_eq, if_false, h1, if_true, n_one, n_or, ↓reduceIte, bT, bF, Nat.reduceEqDiff]
    · simp (disch := first | assumption | omega | decide) only [x176_0, x176_1, x176_2, x176_3, x176_5, x176_6, x176_7, x176_8, x176_9, x176_10, x176_11, x176_12, x176_13, x176_14, x176_15, x176_16, x176_17, x176_18, x176_19, x176_20, x176_21, x176_22, x176_23, x176_24, x176_25, x176_26, x176_27, m', nI_add, nI_leI, Nat.not_le.mpr hj, sp_has, bI_f h1, Option.toList, List.cons_append, List.nil_append, n_z, nI_eq, if_false, h1, if_true, n_one, n_or, ↓reduceIte, bT, bF, Nat.reduceEqDiff]
  simp (disch := first | assumption | omega | decide) only [x176_0, x176_1, x176_2, x176_3, x176_5, x176_6, x176_7, x176_8, x176_9, x176_10, x176_11, x176_12, x176_13, x176_14, x176_15, x176_16, x176_17, x176_18, x176_19, x176_20, x176_21, x176_22, x176_23, x176_24, x176_25, x176_26, x176_27]
  rw [show kpN (fun h => A (12 + h)) r 0 = 0 from rfl] at e
  rw [e, x176_4]
  simp (disch := first | assumption | omega | decide) only [x176_0, x176_1, x176_2, x176_3, x176_5, x176_6, x176_7, x176_8, x176_9, x176_10, x176_11, x176_12, x176_13, x176_14, x176_15, x176_16, x176_17, x176_18, x176_19, x176_20, x176_21, x176_22, x176_23, x176_24, x176_25, x176_26, x176_27, nI_leI, Nat.le_refl, if_true]
  rfl
end Spec1
