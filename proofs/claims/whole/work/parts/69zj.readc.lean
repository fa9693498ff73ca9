/-! the class's reader: sums, questions, what is opened -/
def fin (cs : List Nat) (r : Rs) : Ss := match r with
  | .inl e => .inl e
  | .inr (c, p) => .inr (cs ++ c.1, p)
theorem ap_r {r : Nat → Rs} {cs : List Nat} {p : Nat} : ap r (.inr (cs, p)) = fin cs (r p) := rfl
theorem ap_l {r : Nat → Rs} {e : Nat × Nat} : ap r (.inl e) = .inl e := rfl
theorem fin_l {cs : List Nat} {e : Nat × Nat} : fin cs (.inl e) = .inl e := rfl
theorem fin_r {cs : List Nat} {c : Cd} {p : Nat} : fin cs (.inr (c, p)) = .inr (cs ++ c.1, p) := rfl
theorem fin_x {b : Nat → Nat} {n w p : Nat} {cs : List Nat} {c : Cd} : ap (fun p => xpt b n w ([], []) p) (.inr (cs ++ c.1, p)) = fin cs (xpt b n w c p) := by
  rw [ap_r]
  unfold xpt
  split
  · rw [fin_r, fin_r, List.append_nil]
  · rfl
section ReadC
variable {sc : Sc} {d : Nat} {t : Nat} {b : Nat → Nat} {n L o : Nat}
theorem ms_prd {one : Nat → Rs} (ht : t < 4) (h1 : MS sc (d + 8) (some (47 + 5 * t)) t b n L 40 [some (.ref 67), some (.int (nI o))] (one)) (ln : LnR b n (one)) : MS sc (d + 9) (some (47 + 5 * t)) t b n L 39 [some (.ref 67), some (.int (nI o)), none, none] (prd b n one) := by
  have dead : ∀ (f x : Nat) (I : Nat → Nat → Int32) (J : Nat → Nat → Int64) (i : Nat) (u3 : Option Value), i ≤ 300 → DdC I t f x → ∀ Q, Rn sc (d + 9) 39 5 [some (.ref 67), some (.int (nI o)), some (.int (nI i)), u3] [] (K0, I, J, R1 (some (47 + 5 * t))) Q = Q none (K0, I, J, R1 (some (47 + 5 * t))) := by
    intro f x I J i u3 hi hD Q
    have h2 := hD.1
    have f0 : ¬ f = 0 := by
      have := hD.2.1
      omega
    have f7 := hD.2.2.1
    rw [x39_5]
    by_cases c : 300 ≤ i
    · simp (disch := first | assumption | omega | decide) only [x39_6, x39_7, x39_34, ↓reduceIte, Option.toList, List.nil_append, List.cons_append, nI_add, pk_mul, n_and, n_or, n_xor, nI_leI, nI_ltI, nI_eq, n_z, uI_s, uI_n, bI_n0, bI_n1, bT, bF, if_true, if_false, not_true, not_false_eq_true, pk_div, pk_rem, Nat.reduceEqDiff, Nat.reduceLeDiff, Nat.reduceLT, Nat.reduceAdd, Nat.reduceMul, Nat.reduceSub, Nat.not_lt_zero, Nat.zero_le, reduceCtorEq, ite_self, n_rem, and_self, and_true, true_and, and_false, false_and, c]
    · simp (disch := first | assumption | omega | decide) only [x39_6, x39_7, x39_8, x39_9, x39_10, x39_34, ↓reduceIte, Option.toList, List.nil_append, List.cons_append, nI_add, pk_mul, n_and, n_or, n_xor, nI_leI, nI_ltI, nI_eq, n_z, uI_s, uI_n, bI_n0, bI_n1, bT, bF, if_true, if_false, not_true, not_false_eq_true, pk_div, pk_rem, Nat.reduceEqDiff, Nat.reduceLeDiff, Nat.reduceLT, Nat.reduceAdd, Nat.reduceMul, Nat.reduceSub, Nat.not_lt_zero, Nat.zero_le, reduceCtorEq, ite_self, n_rem, and_self, and_true, true_and, and_false, false_and, c, h2, f0]
  have loop : ∀ (cs : List Nat) (m i : Nat) (c : Cd) (p : Nat) (I : Nat → Nat → Int32) (J : Nat → Nat → Int64) (u3 : Option Value), i + m = 300 → LvS I t b n L (cs ++ c.1) p → ∃ I', FrZ t I I' ∧ StC I' t b n L (fin cs (lpO b n isMul cB (one) m c p)) ∧ ∀ Q, Rn sc (d + 9) 39 5 [some (.ref 67), some (.int (nI o)), some (.int (nI i)), u3] [] (K0, I, J, R1 (some (47 + 5 * t))) Q = Q none (K0, I', J, R1 (some (47 + 5 * t))) := by
    intro cs m
    induction m with
    | zero =>
      intro i c p I J u3 hi hL
      have c3 : 300 ≤ i := by omega
      refine ⟨I, FrZ_r, hL, fun Q => ?_⟩
      rw [x39_5]
      simp (disch := first | assumption | omega | decide) only [x39_6, x39_7, x39_34, ↓reduceIte, Option.toList, List.nil_append, List.cons_append, nI_add, pk_mul, n_and, n_or, n_xor, nI_leI, nI_ltI, nI_eq, n_z, uI_s, uI_n, bI_n0, bI_n1, bT, bF, if_true, if_false, not_true, not_false_eq_true, pk_div, pk_rem, Nat.reduceEqDiff, Nat.reduceLeDiff, Nat.reduceLT, Nat.reduceAdd, Nat.reduceMul, Nat.reduceSub, Nat.not_lt_zero, Nat.zero_le, reduceCtorEq, ite_self, n_rem, and_self, and_true, true_and, and_false, false_and, c3]
    | succ m ih =>
      intro i c p I J u3 hi hL
      have c3 : ¬ 300 ≤ i := by omega
      have h2 := hL.2.2.2.1
      have k6 := hL.2.2.1.2.2.1
      have kl := tK_lt (b := b) (n := n) (p := p)
      rw [lpO]
      by_cases ck : isMul (tK b n p) = true
      · have ck' : tK b n p = 34 ∨ tK b n p = 35 := of_decide_eq_true ck
        obtain ⟨tk1, tk2⟩ := tk_st hL.2.1 (show tK b n p ≠ 42 by omega)
        have hl := hL.2.2.2.2.2.2.1
        obtain ⟨I1, f1, l1, q1⟩ := nxL (sc := sc) (d := d + 3) (J := J) (T := some (47 + 5 * t)) hL
        obtain ⟨I2, f2, l2, q2⟩ := h1 I1 J (.inr (cs ++ c.1, tX b n p)) l1
        have st : ∀ Q, Rn sc (d + 9) 39 5 [some (.ref 67), some (.int (nI o)), some (.int (nI i)), u3] [] (K0, I, J, R1 (some (47 + 5 * t))) Q = Rn sc (d + 9) 39 27 [some (.ref 67), some (.int (nI o)), some (.int (nI i)), some (.int (nI (tK b n p)))] [] (K0, I2, J, R1 (some (47 + 5 * t))) Q := fun Q => by
          rw [x39_5]
          rcases ck' with ck' | ck'
          · rw [ck'] at k6
            rw [ck']
            simp (disch := first | assumption | omega | decide) only [x39_6, x39_7, x39_8, x39_9, x39_10, x39_11, x39_12, x39_13, x39_14, x39_15, x39_16, x39_17, x39_18, x39_19, x39_20, x39_21, x39_22, x39_23, x39_24, x39_25, x39_26, ↓reduceIte, Option.toList, List.nil_append, List.cons_append, nI_add, pk_mul, n_and, n_or, n_xor, nI_leI, nI_ltI, nI_eq, n_z, uI_s, uI_n, bI_n0, bI_n1, bT, bF, if_true, if_false, not_true, not_false_eq_true, pk_div, pk_rem, Nat.reduceEqDiff, Nat.reduceLeDiff, Nat.reduceLT, Nat.reduceAdd, Nat.reduceMul, Nat.reduceSub, Nat.not_lt_zero, Nat.zero_le, reduceCtorEq, ite_self, n_rem, and_self, and_true, true_and, and_false, false_and, c3, h2, k6, q1, q2]
          · rw [ck'] at k6
            rw [ck']
            simp (disch := first | assumption | omega | decide) only [x39_6, x39_7, x39_8, x39_9, x39_10, x39_11, x39_12, x39_13, x39_14, x39_15, x39_16, x39_17, x39_18, x39_19, x39_20, x39_21, x39_22, x39_23, x39_24, x39_25, x39_26, ↓reduceIte, Option.toList, List.nil_append, List.cons_append, nI_add, pk_mul, n_and, n_or, n_xor, nI_leI, nI_ltI, nI_eq, n_z, uI_s, uI_n, bI_n0, bI_n1, bT, bF, if_true, if_false, not_true, not_false_eq_true, pk_div, pk_rem, Nat.reduceEqDiff, Nat.reduceLeDiff, Nat.reduceLT, Nat.reduceAdd, Nat.reduceMul, Nat.reduceSub, Nat.not_lt_zero, Nat.zero_le, reduceCtorEq, ite_self, n_rem, and_self, and_true, true_and, and_false, false_and, c3, h2, k6, q1, q2]
        rw [if_pos ck]
        rw [ap_r] at l2
        rcases e1 : (one) (tX b n p) with ⟨f, x⟩ | ⟨c2, p2⟩
        · rw [e1, fin_l] at l2
          have l2 : DdC I2 t f x := l2
          obtain ⟨I3, f3, d3, q3⟩ := emD (sc := sc) (d := d + 8) (J := J) (T := some (47 + 5 * t)) (u := 0) (w := tK b n p) (v := 0) ht l2 (by omega)
          refine ⟨I3, FrZ_t f1 (FrZ_t f2 f3), d3, fun Q => ?_⟩
          rw [st Q]
          simp (disch := first | assumption | omega | decide) only [x39_27, x39_28, x39_29, x39_30, x39_32, x39_33, x39_31r (a0 := 47 + 5 * t) (by omega) (kd_t ht), ↓reduceIte, Option.toList, List.nil_append, List.cons_append, nI_add, pk_mul, n_and, n_or, n_xor, nI_leI, nI_ltI, nI_eq, n_z, uI_s, uI_n, bI_n0, bI_n1, bT, bF, if_true, if_false, not_true, not_false_eq_true, pk_div, pk_rem, Nat.reduceEqDiff, Nat.reduceLeDiff, Nat.reduceLT, Nat.reduceAdd, Nat.reduceMul, Nat.reduceSub, Nat.not_lt_zero, Nat.zero_le, reduceCtorEq, ite_self, n_rem, and_self, and_true, true_and, and_false, false_and, valR, q3]
          exact dead f x I3 J (i + 1) _ (by omega) d3 Q
        · rw [e1, fin_r] at l2
          have l2 : LvS I2 t b n L (cs ++ c.1 ++ c2.1) p2 := l2
          obtain ⟨n1, n2, n3⟩ := ln _ tk1 c2 p2 e1
          have sl := (tS_le (b := b) n1).2
          have n300 := hL.1.1
          have le : (cs ++ c.1 ++ c2.1).length + 1 ≤ tS b n p2 := by
            rw [List.length_append]
            omega
          obtain ⟨I3, f3, c3', q3⟩ := emL (sc := sc) (d := d + 8) (J := J) (T := some (47 + 5 * t)) (w := tK b n p) (v := 0) ht l2.2.2.2.2.2.1 (by omega) (by omega)
          rw [Nat.zero_mul, Nat.add_zero] at c3'
          have ec : cs ++ c.1 ++ c2.1 ++ [tK b n p] = cs ++ (cB (tK b n p) c c2).1 := by
            unfold cB
            simp only [List.append_assoc]
          rw [ec] at c3'
          have l3 : LvS I3 t b n L (cs ++ (cB (tK b n p) c c2).1) p2 := LvS_e l2 f3 ht c3' (by rw [← ec, List.length_append]; exact le)
          obtain ⟨I4, f4, s4, q4⟩ := ih (i + 1) (cB (tK b n p) c c2) p2 I3 J (some (.int (nI (tK b n p)))) (by omega) l3
          refine ⟨I4, FrZ_t f1 (FrZ_t f2 (FrZ_t (fun c k a1 a2 a3 => f3 c k a2 a3) f4)), s4, fun Q => ?_⟩
          rw [st Q, ← q4 Q]
          simp (disch := first | assumption | omega | decide) only [x39_27, x39_28, x39_29, x39_30, x39_32, x39_33, x39_31r (a0 := 47 + 5 * t) (by omega) (kd_t ht), ↓reduceIte, Option.toList, List.nil_append, List.cons_append, nI_add, pk_mul, n_and, n_or, n_xor, nI_leI, nI_ltI, nI_eq, n_z, uI_s, uI_n, bI_n0, bI_n1, bT, bF, if_true, if_false, not_true, not_false_eq_true, pk_div, pk_rem, Nat.reduceEqDiff, Nat.reduceLeDiff, Nat.reduceLT, Nat.reduceAdd, Nat.reduceMul, Nat.reduceSub, Nat.not_lt_zero, Nat.zero_le, reduceCtorEq, ite_self, n_rem, and_self, and_true, true_and, and_false, false_and, valR, q3]
      · have ck' : ¬ (tK b n p = 34 ∨ tK b n p = 35) := fun h => ck (decide_eq_true h)
        have a1 : ¬ tK b n p = 34 := fun h => ck' (Or.inl h)
        have a2 : ¬ tK b n p = 35 := fun h => ck' (Or.inr h)
        rw [if_neg ck]
        refine ⟨I, FrZ_r, hL, fun Q => ?_⟩
        rw [x39_5]
        simp (disch := first | assumption | omega | decide) only [x39_6, x39_7, x39_8, x39_9, x39_10, x39_11, x39_12, x39_13, x39_14, x39_15, x39_16, x39_17, x39_18, x39_34, ↓reduceIte, Option.toList, List.nil_append, List.cons_append, nI_add, pk_mul, n_and, n_or, n_xor, nI_leI, nI_ltI, nI_eq, n_z, uI_s, uI_n, bI_n0, bI_n1, bT, bF, if_true, if_false, not_true, not_false_eq_true, pk_div, pk_rem, Nat.reduceEqDiff, Nat.reduceLeDiff, Nat.reduceLT, Nat.reduceAdd, Nat.reduceMul, Nat.reduceSub, Nat.not_lt_zero, Nat.zero_le, reduceCtorEq, ite_self, n_rem, and_self, and_true, true_and, and_false, false_and, c3, h2, k6, a1, a2]
  intro I J st hst
  obtain ⟨I1, f1, s1, q1⟩ := h1 I J st hst
  rcases st with ⟨f, x⟩ | ⟨cs, p⟩
  · have s1 : DdC I1 t f x := s1
    refine ⟨I1, f1, s1, fun Q => ?_⟩
    simp (disch := first | assumption | omega | decide) only [x39_0, x39_1, x39_2, x39_3, x39_4, ↓reduceIte, Option.toList, List.nil_append, List.cons_append, nI_add, pk_mul, n_and, n_or, n_xor, nI_leI, nI_ltI, nI_eq, n_z, uI_s, uI_n, bI_n0, bI_n1, bT, bF, if_true, if_false, not_true, not_false_eq_true, pk_div, pk_rem, Nat.reduceEqDiff, Nat.reduceLeDiff, Nat.reduceLT, Nat.reduceAdd, Nat.reduceMul, Nat.reduceSub, Nat.not_lt_zero, Nat.zero_le, reduceCtorEq, ite_self, n_rem, and_self, and_true, true_and, and_false, false_and, q1]
    exact dead f x I1 J 0 none (by omega) s1 Q
  · rw [ap_r] at s1
    rw [ap_r]
    unfold prd
    rcases e1 : (one) p with ⟨f, x⟩ | ⟨c, p1⟩
    · rw [e1, fin_l] at s1
      have s1 : DdC I1 t f x := s1
      refine ⟨I1, f1, s1, fun Q => ?_⟩
      simp (disch := first | assumption | omega | decide) only [x39_0, x39_1, x39_2, x39_3, x39_4, ↓reduceIte, Option.toList, List.nil_append, List.cons_append, nI_add, pk_mul, n_and, n_or, n_xor, nI_leI, nI_ltI, nI_eq, n_z, uI_s, uI_n, bI_n0, bI_n1, bT, bF, if_true, if_false, not_true, not_false_eq_true, pk_div, pk_rem, Nat.reduceEqDiff, Nat.reduceLeDiff, Nat.reduceLT, Nat.reduceAdd, Nat.reduceMul, Nat.reduceSub, Nat.not_lt_zero, Nat.zero_le, reduceCtorEq, ite_self, n_rem, and_self, and_true, true_and, and_false, false_and, q1]
      exact dead f x I1 J 0 none (by omega) s1 Q
    · rw [e1, fin_r] at s1
      rw [bnd_r]
      obtain ⟨I2, f2, s2, q2⟩ := loop cs 300 0 c p1 I1 J none rfl s1
      refine ⟨I2, FrZ_t f1 f2, s2, fun Q => ?_⟩
      rw [← q2 Q]
      simp (disch := first | assumption | omega | decide) only [x39_0, x39_1, x39_2, x39_3, x39_4, ↓reduceIte, Option.toList, List.nil_append, List.cons_append, nI_add, pk_mul, n_and, n_or, n_xor, nI_leI, nI_ltI, nI_eq, n_z, uI_s, uI_n, bI_n0, bI_n1, bT, bF, if_true, if_false, not_true, not_false_eq_true, pk_div, pk_rem, Nat.reduceEqDiff, Nat.reduceLeDiff, Nat.reduceLT, Nat.reduceAdd, Nat.reduceMul, Nat.reduceSub, Nat.not_lt_zero, Nat.zero_le, reduceCtorEq, ite_self, n_rem, and_self, and_true, true_and, and_false, false_and, q1]
theorem ms_smr {one : Nat → Rs} (ht : t < 4) (h1 : MS sc (d + 9) (some (47 + 5 * t)) t b n L 39 [some (.ref 67), some (.int (nI o)), none, none] (prd b n one)) (ln : LnR b n (prd b n one)) : MS sc (d + 10) (some (47 + 5 * t)) t b n L 38 [some (.ref 67), some (.int (nI o)), none, none] (smr b n one) := by
  have dead : ∀ (f x : Nat) (I : Nat → Nat → Int32) (J : Nat → Nat → Int64) (i : Nat) (u3 : Option Value), i ≤ 300 → DdC I t f x → ∀ Q, Rn sc (d + 10) 38 5 [some (.ref 67), some (.int (nI o)), some (.int (nI i)), u3] [] (K0, I, J, R1 (some (47 + 5 * t))) Q = Q none (K0, I, J, R1 (some (47 + 5 * t))) := by
    intro f x I J i u3 hi hD Q
    have h2 := hD.1
    have f0 : ¬ f = 0 := by
      have := hD.2.1
      omega
    have f7 := hD.2.2.1
    rw [x38_5]
    by_cases c : 300 ≤ i
    · simp (disch := first | assumption | omega | decide) only [x38_6, x38_7, x38_34, ↓reduceIte, Option.toList, List.nil_append, List.cons_append, nI_add, pk_mul, n_and, n_or, n_xor, nI_leI, nI_ltI, nI_eq, n_z, uI_s, uI_n, bI_n0, bI_n1, bT, bF, if_true, if_false, not_true, not_false_eq_true, pk_div, pk_rem, Nat.reduceEqDiff, Nat.reduceLeDiff, Nat.reduceLT, Nat.reduceAdd, Nat.reduceMul, Nat.reduceSub, Nat.not_lt_zero, Nat.zero_le, reduceCtorEq, ite_self, n_rem, and_self, and_true, true_and, and_false, false_and, c]
    · simp (disch := first | assumption | omega | decide) only [x38_6, x38_7, x38_8, x38_9, x38_10, x38_34, ↓reduceIte, Option.toList, List.nil_append, List.cons_append, nI_add, pk_mul, n_and, n_or, n_xor, nI_leI, nI_ltI, nI_eq, n_z, uI_s, uI_n, bI_n0, bI_n1, bT, bF, if_true, if_false, not_true, not_false_eq_true, pk_div, pk_rem, Nat.reduceEqDiff, Nat.reduceLeDiff, Nat.reduceLT, Nat.reduceAdd, Nat.reduceMul, Nat.reduceSub, Nat.not_lt_zero, Nat.zero_le, reduceCtorEq, ite_self, n_rem, and_self, and_true, true_and, and_false, false_and, c, h2, f0]
  have loop : ∀ (cs : List Nat) (m i : Nat) (c : Cd) (p : Nat) (I : Nat → Nat → Int32) (J : Nat → Nat → Int64) (u3 : Option Value), i + m = 300 → LvS I t b n L (cs ++ c.1) p → ∃ I', FrZ t I I' ∧ StC I' t b n L (fin cs (lpO b n isAdd cB (prd b n one) m c p)) ∧ ∀ Q, Rn sc (d + 10) 38 5 [some (.ref 67), some (.int (nI o)), some (.int (nI i)), u3] [] (K0, I, J, R1 (some (47 + 5 * t))) Q = Q none (K0, I', J, R1 (some (47 + 5 * t))) := by
    intro cs m
    induction m with
    | zero =>
      intro i c p I J u3 hi hL
      have c3 : 300 ≤ i := by omega
      refine ⟨I, FrZ_r, hL, fun Q => ?_⟩
      rw [x38_5]
      simp (disch := first | assumption | omega | decide) only [x38_6, x38_7, x38_34, ↓reduceIte, Option.toList, List.nil_append, List.cons_append, nI_add, pk_mul, n_and, n_or, n_xor, nI_leI, nI_ltI, nI_eq, n_z, uI_s, uI_n, bI_n0, bI_n1, bT, bF, if_true, if_false, not_true, not_false_eq_true, pk_div, pk_rem, Nat.reduceEqDiff, Nat.reduceLeDiff, Nat.reduceLT, Nat.reduceAdd, Nat.reduceMul, Nat.reduceSub, Nat.not_lt_zero, Nat.zero_le, reduceCtorEq, ite_self, n_rem, and_self, and_true, true_and, and_false, false_and, c3]
    | succ m ih =>
      intro i c p I J u3 hi hL
      have c3 : ¬ 300 ≤ i := by omega
      have h2 := hL.2.2.2.1
      have k6 := hL.2.2.1.2.2.1
      have kl := tK_lt (b := b) (n := n) (p := p)
      rw [lpO]
      by_cases ck : isAdd (tK b n p) = true
      · have ck' : tK b n p = 32 ∨ tK b n p = 33 := of_decide_eq_true ck
        obtain ⟨tk1, tk2⟩ := tk_st hL.2.1 (show tK b n p ≠ 42 by omega)
        have hl := hL.2.2.2.2.2.2.1
        obtain ⟨I1, f1, l1, q1⟩ := nxL (sc := sc) (d := d + 4) (J := J) (T := some (47 + 5 * t)) hL
        obtain ⟨I2, f2, l2, q2⟩ := h1 I1 J (.inr (cs ++ c.1, tX b n p)) l1
        have st : ∀ Q, Rn sc (d + 10) 38 5 [some (.ref 67), some (.int (nI o)), some (.int (nI i)), u3] [] (K0, I, J, R1 (some (47 + 5 * t))) Q = Rn sc (d + 10) 38 27 [some (.ref 67), some (.int (nI o)), some (.int (nI i)), some (.int (nI (tK b n p)))] [] (K0, I2, J, R1 (some (47 + 5 * t))) Q := fun Q => by
          rw [x38_5]
          rcases ck' with ck' | ck'
          · rw [ck'] at k6
            rw [ck']
            simp (disch := first | assumption | omega | decide) only [x38_6, x38_7, x38_8, x38_9, x38_10, x38_11, x38_12, x38_13, x38_14, x38_15, x38_16, x38_17, x38_18, x38_19, x38_20, x38_21, x38_22, x38_23, x38_24, x38_25, x38_26, ↓reduceIte, Option.toList, List.nil_append, List.cons_append, nI_add, pk_mul, n_and, n_or, n_xor, nI_leI, nI_ltI, nI_eq, n_z, uI_s, uI_n, bI_n0, bI_n1, bT, bF, if_true, if_false, not_true, not_false_eq_true, pk_div, pk_rem, Nat.reduceEqDiff, Nat.reduceLeDiff, Nat.reduceLT, Nat.reduceAdd, Nat.reduceMul, Nat.reduceSub, Nat.not_lt_zero, Nat.zero_le, reduceCtorEq, ite_self, n_rem, and_self, and_true, true_and, and_false, false_and, c3, h2, k6, q1, q2]
          · rw [ck'] at k6
            rw [ck']
            simp (disch := first | assumption | omega | decide) only [x38_6, x38_7, x38_8, x38_9, x38_10, x38_11, x38_12, x38_13, x38_14, x38_15, x38_16, x38_17, x38_18, x38_19, x38_20, x38_21, x38_22, x38_23, x38_24, x38_25, x38_26, ↓reduceIte, Option.toList, List.nil_append, List.cons_append, nI_add, pk_mul, n_and, n_or, n_xor, nI_leI, nI_ltI, nI_eq, n_z, uI_s, uI_n, bI_n0, bI_n1, bT, bF, if_true, if_false, not_true, not_false_eq_true, pk_div, pk_rem, Nat.reduceEqDiff, Nat.reduceLeDiff, Nat.reduceLT, Nat.reduceAdd, Nat.reduceMul, Nat.reduceSub, Nat.not_lt_zero, Nat.zero_le, reduceCtorEq, ite_self, n_rem, and_self, and_true, true_and, and_false, false_and, c3, h2, k6, q1, q2]
        rw [if_pos ck]
        rw [ap_r] at l2
        rcases e1 : (prd b n one) (tX b n p) with ⟨f, x⟩ | ⟨c2, p2⟩
        · rw [e1, fin_l] at l2
          have l2 : DdC I2 t f x := l2
          obtain ⟨I3, f3, d3, q3⟩ := emD (sc := sc) (d := d + 9) (J := J) (T := some (47 + 5 * t)) (u := 0) (w := tK b n p) (v := 0) ht l2 (by omega)
          refine ⟨I3, FrZ_t f1 (FrZ_t f2 f3), d3, fun Q => ?_⟩
          rw [st Q]
          simp (disch := first | assumption | omega | decide) only [x38_27, x38_28, x38_29, x38_30, x38_32, x38_33, x38_31r (a0 := 47 + 5 * t) (by omega) (kd_t ht), ↓reduceIte, Option.toList, List.nil_append, List.cons_append, nI_add, pk_mul, n_and, n_or, n_xor, nI_leI, nI_ltI, nI_eq, n_z, uI_s, uI_n, bI_n0, bI_n1, bT, bF, if_true, if_false, not_true, not_false_eq_true, pk_div, pk_rem, Nat.reduceEqDiff, Nat.reduceLeDiff, Nat.reduceLT, Nat.reduceAdd, Nat.reduceMul, Nat.reduceSub, Nat.not_lt_zero, Nat.zero_le, reduceCtorEq, ite_self, n_rem, and_self, and_true, true_and, and_false, false_and, valR, q3]
          exact dead f x I3 J (i + 1) _ (by omega) d3 Q
        · rw [e1, fin_r] at l2
          have l2 : LvS I2 t b n L (cs ++ c.1 ++ c2.1) p2 := l2
          obtain ⟨n1, n2, n3⟩ := ln _ tk1 c2 p2 e1
          have sl := (tS_le (b := b) n1).2
          have n300 := hL.1.1
          have le : (cs ++ c.1 ++ c2.1).length + 1 ≤ tS b n p2 := by
            rw [List.length_append]
            omega
          obtain ⟨I3, f3, c3', q3⟩ := emL (sc := sc) (d := d + 9) (J := J) (T := some (47 + 5 * t)) (w := tK b n p) (v := 0) ht l2.2.2.2.2.2.1 (by omega) (by omega)
          rw [Nat.zero_mul, Nat.add_zero] at c3'
          have ec : cs ++ c.1 ++ c2.1 ++ [tK b n p] = cs ++ (cB (tK b n p) c c2).1 := by
            unfold cB
            simp only [List.append_assoc]
          rw [ec] at c3'
          have l3 : LvS I3 t b n L (cs ++ (cB (tK b n p) c c2).1) p2 := LvS_e l2 f3 ht c3' (by rw [← ec, List.length_append]; exact le)
          obtain ⟨I4, f4, s4, q4⟩ := ih (i + 1) (cB (tK b n p) c c2) p2 I3 J (some (.int (nI (tK b n p)))) (by omega) l3
          refine ⟨I4, FrZ_t f1 (FrZ_t f2 (FrZ_t (fun c k a1 a2 a3 => f3 c k a2 a3) f4)), s4, fun Q => ?_⟩
          rw [st Q, ← q4 Q]
          simp (disch := first | assumption | omega | decide) only [x38_27, x38_28, x38_29, x38_30, x38_32, x38_33, x38_31r (a0 := 47 + 5 * t) (by omega) (kd_t ht), ↓reduceIte, Option.toList, List.nil_append, List.cons_append, nI_add, pk_mul, n_and, n_or, n_xor, nI_leI, nI_ltI, nI_eq, n_z, uI_s, uI_n, bI_n0, bI_n1, bT, bF, if_true, if_false, not_true, not_false_eq_true, pk_div, pk_rem, Nat.reduceEqDiff, Nat.reduceLeDiff, Nat.reduceLT, Nat.reduceAdd, Nat.reduceMul, Nat.reduceSub, Nat.not_lt_zero, Nat.zero_le, reduceCtorEq, ite_self, n_rem, and_self, and_true, true_and, and_false, false_and, valR, q3]
      · have ck' : ¬ (tK b n p = 32 ∨ tK b n p = 33) := fun h => ck (decide_eq_true h)
        have a1 : ¬ tK b n p = 32 := fun h => ck' (Or.inl h)
        have a2 : ¬ tK b n p = 33 := fun h => ck' (Or.inr h)
        rw [if_neg ck]
        refine ⟨I, FrZ_r, hL, fun Q => ?_⟩
        rw [x38_5]
        simp (disch := first | assumption | omega | decide) only [x38_6, x38_7, x38_8, x38_9, x38_10, x38_11, x38_12, x38_13, x38_14, x38_15, x38_16, x38_17, x38_18, x38_34, ↓reduceIte, Option.toList, List.nil_append, List.cons_append, nI_add, pk_mul, n_and, n_or, n_xor, nI_leI, nI_ltI, nI_eq, n_z, uI_s, uI_n, bI_n0, bI_n1, bT, bF, if_true, if_false, not_true, not_false_eq_true, pk_div, pk_rem, Nat.reduceEqDiff, Nat.reduceLeDiff, Nat.reduceLT, Nat.reduceAdd, Nat.reduceMul, Nat.reduceSub, Nat.not_lt_zero, Nat.zero_le, reduceCtorEq, ite_self, n_rem, and_self, and_true, true_and, and_false, false_and, c3, h2, k6, a1, a2]
  intro I J st hst
  obtain ⟨I1, f1, s1, q1⟩ := h1 I J st hst
  rcases st with ⟨f, x⟩ | ⟨cs, p⟩
  · have s1 : DdC I1 t f x := s1
    refine ⟨I1, f1, s1, fun Q => ?_⟩
    simp (disch := first | assumption | omega | decide) only [x38_0, x38_1, x38_2, x38_3, x38_4, ↓reduceIte, Option.toList, List.nil_append, List.cons_append, nI_add, pk_mul, n_and, n_or, n_xor, nI_leI, nI_ltI, nI_eq, n_z, uI_s, uI_n, bI_n0, bI_n1, bT, bF, if_true, if_false, not_true, not_false_eq_true, pk_div, pk_rem, Nat.reduceEqDiff, Nat.reduceLeDiff, Nat.reduceLT, Nat.reduceAdd, Nat.reduceMul, Nat.reduceSub, Nat.not_lt_zero, Nat.zero_le, reduceCtorEq, ite_self, n_rem, and_self, and_true, true_and, and_false, false_and, q1]
    exact dead f x I1 J 0 none (by omega) s1 Q
  · rw [ap_r] at s1
    rw [ap_r]
    unfold smr
    rcases e1 : (prd b n one) p with ⟨f, x⟩ | ⟨c, p1⟩
    · rw [e1, fin_l] at s1
      have s1 : DdC I1 t f x := s1
      refine ⟨I1, f1, s1, fun Q => ?_⟩
      simp (disch := first | assumption | omega | decide) only [x38_0, x38_1, x38_2, x38_3, x38_4, ↓reduceIte, Option.toList, List.nil_append, List.cons_append, nI_add, pk_mul, n_and, n_or, n_xor, nI_leI, nI_ltI, nI_eq, n_z, uI_s, uI_n, bI_n0, bI_n1, bT, bF, if_true, if_false, not_true, not_false_eq_true, pk_div, pk_rem, Nat.reduceEqDiff, Nat.reduceLeDiff, Nat.reduceLT, Nat.reduceAdd, Nat.reduceMul, Nat.reduceSub, Nat.not_lt_zero, Nat.zero_le, reduceCtorEq, ite_self, n_rem, and_self, and_true, true_and, and_false, false_and, q1]
      exact dead f x I1 J 0 none (by omega) s1 Q
    · rw [e1, fin_r] at s1
      rw [bnd_r]
      obtain ⟨I2, f2, s2, q2⟩ := loop cs 300 0 c p1 I1 J none rfl s1
      refine ⟨I2, FrZ_t f1 f2, s2, fun Q => ?_⟩
      rw [← q2 Q]
      simp (disch := first | assumption | omega | decide) only [x38_0, x38_1, x38_2, x38_3, x38_4, ↓reduceIte, Option.toList, List.nil_append, List.cons_append, nI_add, pk_mul, n_and, n_or, n_xor, nI_leI, nI_ltI, nI_eq, n_z, uI_s, uI_n, bI_n0, bI_n1, bT, bF, if_true, if_false, not_true, not_false_eq_true, pk_div, pk_rem, Nat.reduceEqDiff, Nat.reduceLeDiff, Nat.reduceLT, Nat.reduceAdd, Nat.reduceMul, Nat.reduceSub, Nat.not_lt_zero, Nat.zero_le, reduceCtorEq, ite_self, n_rem, and_self, and_true, true_and, and_false, false_and, q1]
theorem ms_bth {ask : Nat → Rs} (ht : t < 4) (h1 : MS sc (d + 11) (some (47 + 5 * t)) t b n L 46 [some (.ref 67), some (.int (nI o)), none] (ask)) (ln : LnR b n (ask)) : MS sc (d + 12) (some (47 + 5 * t)) t b n L 45 [some (.ref 67), some (.int (nI o)), none] (bth b n ask) := by
  have dead : ∀ (f x : Nat) (I : Nat → Nat → Int32) (J : Nat → Nat → Int64) (i : Nat), i ≤ 300 → DdC I t f x → ∀ Q, Rn sc (d + 12) 45 5 [some (.ref 67), some (.int (nI o)), some (.int (nI i))] [] (K0, I, J, R1 (some (47 + 5 * t))) Q = Q none (K0, I, J, R1 (some (47 + 5 * t))) := by
    intro f x I J i hi hD Q
    have h2 := hD.1
    have f0 : ¬ f = 0 := by
      have := hD.2.1
      omega
    have f7 := hD.2.2.1
    rw [x45_5]
    by_cases c : 300 ≤ i
    · simp (disch := first | assumption | omega | decide) only [x45_6, x45_7, x45_27, ↓reduceIte, Option.toList, List.nil_append, List.cons_append, nI_add, pk_mul, n_and, n_or, n_xor, nI_leI, nI_ltI, nI_eq, n_z, uI_s, uI_n, bI_n0, bI_n1, bT, bF, if_true, if_false, not_true, not_false_eq_true, pk_div, pk_rem, Nat.reduceEqDiff, Nat.reduceLeDiff, Nat.reduceLT, Nat.reduceAdd, Nat.reduceMul, Nat.reduceSub, Nat.not_lt_zero, Nat.zero_le, reduceCtorEq, ite_self, n_rem, and_self, and_true, true_and, and_false, false_and, c]
    · simp (disch := first | assumption | omega | decide) only [x45_6, x45_7, x45_8, x45_9, x45_10, x45_27, ↓reduceIte, Option.toList, List.nil_append, List.cons_append, nI_add, pk_mul, n_and, n_or, n_xor, nI_leI, nI_ltI, nI_eq, n_z, uI_s, uI_n, bI_n0, bI_n1, bT, bF, if_true, if_false, not_true, not_false_eq_true, pk_div, pk_rem, Nat.reduceEqDiff, Nat.reduceLeDiff, Nat.reduceLT, Nat.reduceAdd, Nat.reduceMul, Nat.reduceSub, Nat.not_lt_zero, Nat.zero_le, reduceCtorEq, ite_self, n_rem, and_self, and_true, true_and, and_false, false_and, c, h2, f0]
  have loop : ∀ (cs : List Nat) (m i : Nat) (c : Cd) (p : Nat) (I : Nat → Nat → Int32) (J : Nat → Nat → Int64), i + m = 300 → LvS I t b n L (cs ++ c.1) p → ∃ I', FrZ t I I' ∧ StC I' t b n L (fin cs (lpO b n (fun k => decide (k = 26)) cJ (ask) m c p)) ∧ ∀ Q, Rn sc (d + 12) 45 5 [some (.ref 67), some (.int (nI o)), some (.int (nI i))] [] (K0, I, J, R1 (some (47 + 5 * t))) Q = Q none (K0, I', J, R1 (some (47 + 5 * t))) := by
    intro cs m
    induction m with
    | zero =>
      intro i c p I J hi hL
      have c3 : 300 ≤ i := by omega
      refine ⟨I, FrZ_r, hL, fun Q => ?_⟩
      rw [x45_5]
      simp (disch := first | assumption | omega | decide) only [x45_6, x45_7, x45_27, ↓reduceIte, Option.toList, List.nil_append, List.cons_append, nI_add, pk_mul, n_and, n_or, n_xor, nI_leI, nI_ltI, nI_eq, n_z, uI_s, uI_n, bI_n0, bI_n1, bT, bF, if_true, if_false, not_true, not_false_eq_true, pk_div, pk_rem, Nat.reduceEqDiff, Nat.reduceLeDiff, Nat.reduceLT, Nat.reduceAdd, Nat.reduceMul, Nat.reduceSub, Nat.not_lt_zero, Nat.zero_le, reduceCtorEq, ite_self, n_rem, and_self, and_true, true_and, and_false, false_and, c3]
    | succ m ih =>
      intro i c p I J hi hL
      have c3 : ¬ 300 ≤ i := by omega
      have h2 := hL.2.2.2.1
      have k6 := hL.2.2.1.2.2.1
      have kl := tK_lt (b := b) (n := n) (p := p)
      rw [lpO]
      by_cases ck : decide (tK b n p = 26) = true
      · have ck' : tK b n p = 26 := of_decide_eq_true ck
        obtain ⟨tk1, tk2⟩ := tk_st hL.2.1 (show tK b n p ≠ 42 by omega)
        have hl := hL.2.2.2.2.2.2.1
        obtain ⟨I1, f1, l1, q1⟩ := nxL (sc := sc) (d := d + 6) (J := J) (T := some (47 + 5 * t)) hL
        obtain ⟨I2, f2, l2, q2⟩ := h1 I1 J (.inr (cs ++ c.1, tX b n p)) l1
        have st : ∀ Q, Rn sc (d + 12) 45 5 [some (.ref 67), some (.int (nI o)), some (.int (nI i))] [] (K0, I, J, R1 (some (47 + 5 * t))) Q = Rn sc (d + 12) 45 20 [some (.ref 67), some (.int (nI o)), some (.int (nI i))] [] (K0, I2, J, R1 (some (47 + 5 * t))) Q := fun Q => by
          rw [ck'] at k6
          rw [x45_5]
          simp (disch := first | assumption | omega | decide) only [x45_6, x45_7, x45_8, x45_9, x45_10, x45_11, x45_12, x45_13, x45_14, x45_15, x45_16, x45_17, x45_18, x45_19, ↓reduceIte, Option.toList, List.nil_append, List.cons_append, nI_add, pk_mul, n_and, n_or, n_xor, nI_leI, nI_ltI, nI_eq, n_z, uI_s, uI_n, bI_n0, bI_n1, bT, bF, if_true, if_false, not_true, not_false_eq_true, pk_div, pk_rem, Nat.reduceEqDiff, Nat.reduceLeDiff, Nat.reduceLT, Nat.reduceAdd, Nat.reduceMul, Nat.reduceSub, Nat.not_lt_zero, Nat.zero_le, reduceCtorEq, ite_self, n_rem, and_self, and_true, true_and, and_false, false_and, c3, h2, k6, q1, q2]
        rw [if_pos ck, ck']
        rw [ap_r] at l2
        rcases e1 : (ask) (tX b n p) with ⟨f, x⟩ | ⟨c2, p2⟩
        · rw [e1, fin_l] at l2
          have l2 : DdC I2 t f x := l2
          obtain ⟨I3, f3, d3, q3⟩ := emD (sc := sc) (d := d + 11) (J := J) (T := some (47 + 5 * t)) (u := 0) (w := 26) (v := 0) ht l2 (by omega)
          refine ⟨I3, FrZ_t f1 (FrZ_t f2 f3), d3, fun Q => ?_⟩
          rw [st Q]
          simp (disch := first | assumption | omega | decide) only [x45_20, x45_21, x45_22, x45_23, x45_25, x45_26, x45_24r (a0 := 47 + 5 * t) (by omega) (kd_t ht), ↓reduceIte, Option.toList, List.nil_append, List.cons_append, nI_add, pk_mul, n_and, n_or, n_xor, nI_leI, nI_ltI, nI_eq, n_z, uI_s, uI_n, bI_n0, bI_n1, bT, bF, if_true, if_false, not_true, not_false_eq_true, pk_div, pk_rem, Nat.reduceEqDiff, Nat.reduceLeDiff, Nat.reduceLT, Nat.reduceAdd, Nat.reduceMul, Nat.reduceSub, Nat.not_lt_zero, Nat.zero_le, reduceCtorEq, ite_self, n_rem, and_self, and_true, true_and, and_false, false_and, valR, q3]
          exact dead f x I3 J (i + 1) (by omega) d3 Q
        · rw [e1, fin_r] at l2
          have l2 : LvS I2 t b n L (cs ++ c.1 ++ c2.1) p2 := l2
          obtain ⟨n1, n2, n3⟩ := ln _ tk1 c2 p2 e1
          have sl := (tS_le (b := b) n1).2
          have n300 := hL.1.1
          have le : (cs ++ c.1 ++ c2.1).length + 1 ≤ tS b n p2 := by
            rw [List.length_append]
            omega
          obtain ⟨I3, f3, c3', q3⟩ := emL (sc := sc) (d := d + 11) (J := J) (T := some (47 + 5 * t)) (w := 26) (v := 0) ht l2.2.2.2.2.2.1 (by omega) (by omega)
          rw [Nat.zero_mul, Nat.add_zero] at c3'
          have ec : cs ++ c.1 ++ c2.1 ++ [26] = cs ++ (cJ 26 c c2).1 := by
            unfold cJ
            simp only [List.append_assoc]
          rw [ec] at c3'
          have l3 : LvS I3 t b n L (cs ++ (cJ 26 c c2).1) p2 := LvS_e l2 f3 ht c3' (by rw [← ec, List.length_append]; exact le)
          obtain ⟨I4, f4, s4, q4⟩ := ih (i + 1) (cJ 26 c c2) p2 I3 J (by omega) l3
          refine ⟨I4, FrZ_t f1 (FrZ_t f2 (FrZ_t (fun c k a1 a2 a3 => f3 c k a2 a3) f4)), s4, fun Q => ?_⟩
          rw [st Q, ← q4 Q]
          simp (disch := first | assumption | omega | decide) only [x45_20, x45_21, x45_22, x45_23, x45_25, x45_26, x45_24r (a0 := 47 + 5 * t) (by omega) (kd_t ht), ↓reduceIte, Option.toList, List.nil_append, List.cons_append, nI_add, pk_mul, n_and, n_or, n_xor, nI_leI, nI_ltI, nI_eq, n_z, uI_s, uI_n, bI_n0, bI_n1, bT, bF, if_true, if_false, not_true, not_false_eq_true, pk_div, pk_rem, Nat.reduceEqDiff, Nat.reduceLeDiff, Nat.reduceLT, Nat.reduceAdd, Nat.reduceMul, Nat.reduceSub, Nat.not_lt_zero, Nat.zero_le, reduceCtorEq, ite_self, n_rem, and_self, and_true, true_and, and_false, false_and, valR, q3]
      · have a1 : ¬ tK b n p = 26 := fun h => ck (decide_eq_true h)
        rw [if_neg ck]
        refine ⟨I, FrZ_r, hL, fun Q => ?_⟩
        rw [x45_5]
        simp (disch := first | assumption | omega | decide) only [x45_6, x45_7, x45_8, x45_9, x45_10, x45_11, x45_12, x45_13, x45_14, x45_27, ↓reduceIte, Option.toList, List.nil_append, List.cons_append, nI_add, pk_mul, n_and, n_or, n_xor, nI_leI, nI_ltI, nI_eq, n_z, uI_s, uI_n, bI_n0, bI_n1, bT, bF, if_true, if_false, not_true, not_false_eq_true, pk_div, pk_rem, Nat.reduceEqDiff, Nat.reduceLeDiff, Nat.reduceLT, Nat.reduceAdd, Nat.reduceMul, Nat.reduceSub, Nat.not_lt_zero, Nat.zero_le, reduceCtorEq, ite_self, n_rem, and_self, and_true, true_and, and_false, false_and, c3, h2, k6, a1]
  intro I J st hst
  obtain ⟨I1, f1, s1, q1⟩ := h1 I J st hst
  rcases st with ⟨f, x⟩ | ⟨cs, p⟩
  · have s1 : DdC I1 t f x := s1
    refine ⟨I1, f1, s1, fun Q => ?_⟩
    simp (disch := first | assumption | omega | decide) only [x45_0, x45_1, x45_2, x45_3, x45_4, ↓reduceIte, Option.toList, List.nil_append, List.cons_append, nI_add, pk_mul, n_and, n_or, n_xor, nI_leI, nI_ltI, nI_eq, n_z, uI_s, uI_n, bI_n0, bI_n1, bT, bF, if_true, if_false, not_true, not_false_eq_true, pk_div, pk_rem, Nat.reduceEqDiff, Nat.reduceLeDiff, Nat.reduceLT, Nat.reduceAdd, Nat.reduceMul, Nat.reduceSub, Nat.not_lt_zero, Nat.zero_le, reduceCtorEq, ite_self, n_rem, and_self, and_true, true_and, and_false, false_and, q1]
    exact dead f x I1 J 0 (by omega) s1 Q
  · rw [ap_r] at s1
    rw [ap_r]
    unfold bth
    rcases e1 : (ask) p with ⟨f, x⟩ | ⟨c, p1⟩
    · rw [e1, fin_l] at s1
      have s1 : DdC I1 t f x := s1
      refine ⟨I1, f1, s1, fun Q => ?_⟩
      simp (disch := first | assumption | omega | decide) only [x45_0, x45_1, x45_2, x45_3, x45_4, ↓reduceIte, Option.toList, List.nil_append, List.cons_append, nI_add, pk_mul, n_and, n_or, n_xor, nI_leI, nI_ltI, nI_eq, n_z, uI_s, uI_n, bI_n0, bI_n1, bT, bF, if_true, if_false, not_true, not_false_eq_true, pk_div, pk_rem, Nat.reduceEqDiff, Nat.reduceLeDiff, Nat.reduceLT, Nat.reduceAdd, Nat.reduceMul, Nat.reduceSub, Nat.not_lt_zero, Nat.zero_le, reduceCtorEq, ite_self, n_rem, and_self, and_true, true_and, and_false, false_and, q1]
      exact dead f x I1 J 0 (by omega) s1 Q
    · rw [e1, fin_r] at s1
      rw [bnd_r]
      obtain ⟨I2, f2, s2, q2⟩ := loop cs 300 0 c p1 I1 J rfl s1
      refine ⟨I2, FrZ_t f1 f2, s2, fun Q => ?_⟩
      rw [← q2 Q]
      simp (disch := first | assumption | omega | decide) only [x45_0, x45_1, x45_2, x45_3, x45_4, ↓reduceIte, Option.toList, List.nil_append, List.cons_append, nI_add, pk_mul, n_and, n_or, n_xor, nI_leI, nI_ltI, nI_eq, n_z, uI_s, uI_n, bI_n0, bI_n1, bT, bF, if_true, if_false, not_true, not_false_eq_true, pk_div, pk_rem, Nat.reduceEqDiff, Nat.reduceLeDiff, Nat.reduceLT, Nat.reduceAdd, Nat.reduceMul, Nat.reduceSub, Nat.not_lt_zero, Nat.zero_le, reduceCtorEq, ite_self, n_rem, and_self, and_true, true_and, and_false, false_and, q1]
theorem ms_eth {ask : Nat → Rs} (ht : t < 4) (h1 : MS sc (d + 12) (some (47 + 5 * t)) t b n L 45 [some (.ref 67), some (.int (nI o)), none] (bth b n ask)) (ln : LnR b n (bth b n ask)) : MS sc (d + 13) (some (47 + 5 * t)) t b n L 44 [some (.ref 67), some (.int (nI o)), none] (eth b n ask) := by
  have dead : ∀ (f x : Nat) (I : Nat → Nat → Int32) (J : Nat → Nat → Int64) (i : Nat), i ≤ 300 → DdC I t f x → ∀ Q, Rn sc (d + 13) 44 5 [some (.ref 67), some (.int (nI o)), some (.int (nI i))] [] (K0, I, J, R1 (some (47 + 5 * t))) Q = Q none (K0, I, J, R1 (some (47 + 5 * t))) := by
    intro f x I J i hi hD Q
    have h2 := hD.1
    have f0 : ¬ f = 0 := by
      have := hD.2.1
      omega
    have f7 := hD.2.2.1
    rw [x44_5]
    by_cases c : 300 ≤ i
    · simp (disch := first | assumption | omega | decide) only [x44_6, x44_7, x44_27, ↓reduceIte, Option.toList, List.nil_append, List.cons_append, nI_add, pk_mul, n_and, n_or, n_xor, nI_leI, nI_ltI, nI_eq, n_z, uI_s, uI_n, bI_n0, bI_n1, bT, bF, if_true, if_false, not_true, not_false_eq_true, pk_div, pk_rem, Nat.reduceEqDiff, Nat.reduceLeDiff, Nat.reduceLT, Nat.reduceAdd, Nat.reduceMul, Nat.reduceSub, Nat.not_lt_zero, Nat.zero_le, reduceCtorEq, ite_self, n_rem, and_self, and_true, true_and, and_false, false_and, c]
    · simp (disch := first | assumption | omega | decide) only [x44_6, x44_7, x44_8, x44_9, x44_10, x44_27, ↓reduceIte, Option.toList, List.nil_append, List.cons_append, nI_add, pk_mul, n_and, n_or, n_xor, nI_leI, nI_ltI, nI_eq, n_z, uI_s, uI_n, bI_n0, bI_n1, bT, bF, if_true, if_false, not_true, not_false_eq_true, pk_div, pk_rem, Nat.reduceEqDiff, Nat.reduceLeDiff, Nat.reduceLT, Nat.reduceAdd, Nat.reduceMul, Nat.reduceSub, Nat.not_lt_zero, Nat.zero_le, reduceCtorEq, ite_self, n_rem, and_self, and_true, true_and, and_false, false_and, c, h2, f0]
  have loop : ∀ (cs : List Nat) (m i : Nat) (c : Cd) (p : Nat) (I : Nat → Nat → Int32) (J : Nat → Nat → Int64), i + m = 300 → LvS I t b n L (cs ++ c.1) p → ∃ I', FrZ t I I' ∧ StC I' t b n L (fin cs (lpO b n (fun k => decide (k = 25)) cJ (bth b n ask) m c p)) ∧ ∀ Q, Rn sc (d + 13) 44 5 [some (.ref 67), some (.int (nI o)), some (.int (nI i))] [] (K0, I, J, R1 (some (47 + 5 * t))) Q = Q none (K0, I', J, R1 (some (47 + 5 * t))) := by
    intro cs m
    induction m with
    | zero =>
      intro i c p I J hi hL
      have c3 : 300 ≤ i := by omega
      refine ⟨I, FrZ_r, hL, fun Q => ?_⟩
      rw [x44_5]
      simp (disch := first | assumption | omega | decide) only [x44_6, x44_7, x44_27, ↓reduceIte, Option.toList, List.nil_append, List.cons_append, nI_add, pk_mul, n_and, n_or, n_xor, nI_leI, nI_ltI, nI_eq, n_z, uI_s, uI_n, bI_n0, bI_n1, bT, bF, if_true, if_false, not_true, not_false_eq_true, pk_div, pk_rem, Nat.reduceEqDiff, Nat.reduceLeDiff, Nat.reduceLT, Nat.reduceAdd, Nat.reduceMul, Nat.reduceSub, Nat.not_lt_zero, Nat.zero_le, reduceCtorEq, ite_self, n_rem, and_self, and_true, true_and, and_false, false_and, c3]
    | succ m ih =>
      intro i c p I J hi hL
      have c3 : ¬ 300 ≤ i := by omega
      have h2 := hL.2.2.2.1
      have k6 := hL.2.2.1.2.2.1
      have kl := tK_lt (b := b) (n := n) (p := p)
      rw [lpO]
      by_cases ck : decide (tK b n p = 25) = true
      · have ck' : tK b n p = 25 := of_decide_eq_true ck
        obtain ⟨tk1, tk2⟩ := tk_st hL.2.1 (show tK b n p ≠ 42 by omega)
        have hl := hL.2.2.2.2.2.2.1
        obtain ⟨I1, f1, l1, q1⟩ := nxL (sc := sc) (d := d + 7) (J := J) (T := some (47 + 5 * t)) hL
        obtain ⟨I2, f2, l2, q2⟩ := h1 I1 J (.inr (cs ++ c.1, tX b n p)) l1
        have st : ∀ Q, Rn sc (d + 13) 44 5 [some (.ref 67), some (.int (nI o)), some (.int (nI i))] [] (K0, I, J, R1 (some (47 + 5 * t))) Q = Rn sc (d + 13) 44 20 [some (.ref 67), some (.int (nI o)), some (.int (nI i))] [] (K0, I2, J, R1 (some (47 + 5 * t))) Q := fun Q => by
          rw [ck'] at k6
          rw [x44_5]
          simp (disch := first | assumption | omega | decide) only [x44_6, x44_7, x44_8, x44_9, x44_10, x44_11, x44_12, x44_13, x44_14, x44_15, x44_16, x44_17, x44_18, x44_19, ↓reduceIte, Option.toList, List.nil_append, List.cons_append, nI_add, pk_mul, n_and, n_or, n_xor, nI_leI, nI_ltI, nI_eq, n_z, uI_s, uI_n, bI_n0, bI_n1, bT, bF, if_true, if_false, not_true, not_false_eq_true, pk_div, pk_rem, Nat.reduceEqDiff, Nat.reduceLeDiff, Nat.reduceLT, Nat.reduceAdd, Nat.reduceMul, Nat.reduceSub, Nat.not_lt_zero, Nat.zero_le, reduceCtorEq, ite_self, n_rem, and_self, and_true, true_and, and_false, false_and, c3, h2, k6, q1, q2]
        rw [if_pos ck, ck']
        rw [ap_r] at l2
        rcases e1 : (bth b n ask) (tX b n p) with ⟨f, x⟩ | ⟨c2, p2⟩
        · rw [e1, fin_l] at l2
          have l2 : DdC I2 t f x := l2
          obtain ⟨I3, f3, d3, q3⟩ := emD (sc := sc) (d := d + 12) (J := J) (T := some (47 + 5 * t)) (u := 0) (w := 25) (v := 0) ht l2 (by omega)
          refine ⟨I3, FrZ_t f1 (FrZ_t f2 f3), d3, fun Q => ?_⟩
          rw [st Q]
          simp (disch := first | assumption | omega | decide) only [x44_20, x44_21, x44_22, x44_23, x44_25, x44_26, x44_24r (a0 := 47 + 5 * t) (by omega) (kd_t ht), ↓reduceIte, Option.toList, List.nil_append, List.cons_append, nI_add, pk_mul, n_and, n_or, n_xor, nI_leI, nI_ltI, nI_eq, n_z, uI_s, uI_n, bI_n0, bI_n1, bT, bF, if_true, if_false, not_true, not_false_eq_true, pk_div, pk_rem, Nat.reduceEqDiff, Nat.reduceLeDiff, Nat.reduceLT, Nat.reduceAdd, Nat.reduceMul, Nat.reduceSub, Nat.not_lt_zero, Nat.zero_le, reduceCtorEq, ite_self, n_rem, and_self, and_true, true_and, and_false, false_and, valR, q3]
          exact dead f x I3 J (i + 1) (by omega) d3 Q
        · rw [e1, fin_r] at l2
          have l2 : LvS I2 t b n L (cs ++ c.1 ++ c2.1) p2 := l2
          obtain ⟨n1, n2, n3⟩ := ln _ tk1 c2 p2 e1
          have sl := (tS_le (b := b) n1).2
          have n300 := hL.1.1
          have le : (cs ++ c.1 ++ c2.1).length + 1 ≤ tS b n p2 := by
            rw [List.length_append]
            omega
          obtain ⟨I3, f3, c3', q3⟩ := emL (sc := sc) (d := d + 12) (J := J) (T := some (47 + 5 * t)) (w := 25) (v := 0) ht l2.2.2.2.2.2.1 (by omega) (by omega)
          rw [Nat.zero_mul, Nat.add_zero] at c3'
          have ec : cs ++ c.1 ++ c2.1 ++ [25] = cs ++ (cJ 25 c c2).1 := by
            unfold cJ
            simp only [List.append_assoc]
          rw [ec] at c3'
          have l3 : LvS I3 t b n L (cs ++ (cJ 25 c c2).1) p2 := LvS_e l2 f3 ht c3' (by rw [← ec, List.length_append]; exact le)
          obtain ⟨I4, f4, s4, q4⟩ := ih (i + 1) (cJ 25 c c2) p2 I3 J (by omega) l3
          refine ⟨I4, FrZ_t f1 (FrZ_t f2 (FrZ_t (fun c k a1 a2 a3 => f3 c k a2 a3) f4)), s4, fun Q => ?_⟩
          rw [st Q, ← q4 Q]
          simp (disch := first | assumption | omega | decide) only [x44_20, x44_21, x44_22, x44_23, x44_25, x44_26, x44_24r (a0 := 47 + 5 * t) (by omega) (kd_t ht), ↓reduceIte, Option.toList, List.nil_append, List.cons_append, nI_add, pk_mul, n_and, n_or, n_xor, nI_leI, nI_ltI, nI_eq, n_z, uI_s, uI_n, bI_n0, bI_n1, bT, bF, if_true, if_false, not_true, not_false_eq_true, pk_div, pk_rem, Nat.reduceEqDiff, Nat.reduceLeDiff, Nat.reduceLT, Nat.reduceAdd, Nat.reduceMul, Nat.reduceSub, Nat.not_lt_zero, Nat.zero_le, reduceCtorEq, ite_self, n_rem, and_self, and_true, true_and, and_false, false_and, valR, q3]
      · have a1 : ¬ tK b n p = 25 := fun h => ck (decide_eq_true h)
        rw [if_neg ck]
        refine ⟨I, FrZ_r, hL, fun Q => ?_⟩
        rw [x44_5]
        simp (disch := first | assumption | omega | decide) only [x44_6, x44_7, x44_8, x44_9, x44_10, x44_11, x44_12, x44_13, x44_14, x44_27, ↓reduceIte, Option.toList, List.nil_append, List.cons_append, nI_add, pk_mul, n_and, n_or, n_xor, nI_leI, nI_ltI, nI_eq, n_z, uI_s, uI_n, bI_n0, bI_n1, bT, bF, if_true, if_false, not_true, not_false_eq_true, pk_div, pk_rem, Nat.reduceEqDiff, Nat.reduceLeDiff, Nat.reduceLT, Nat.reduceAdd, Nat.reduceMul, Nat.reduceSub, Nat.not_lt_zero, Nat.zero_le, reduceCtorEq, ite_self, n_rem, and_self, and_true, true_and, and_false, false_and, c3, h2, k6, a1]
  intro I J st hst
  obtain ⟨I1, f1, s1, q1⟩ := h1 I J st hst
  rcases st with ⟨f, x⟩ | ⟨cs, p⟩
  · have s1 : DdC I1 t f x := s1
    refine ⟨I1, f1, s1, fun Q => ?_⟩
    simp (disch := first | assumption | omega | decide) only [x44_0, x44_1, x44_2, x44_3, x44_4, ↓reduceIte, Option.toList, List.nil_append, List.cons_append, nI_add, pk_mul, n_and, n_or, n_xor, nI_leI, nI_ltI, nI_eq, n_z, uI_s, uI_n, bI_n0, bI_n1, bT, bF, if_true, if_false, not_true, not_false_eq_true, pk_div, pk_rem, Nat.reduceEqDiff, Nat.reduceLeDiff, Nat.reduceLT, Nat.reduceAdd, Nat.reduceMul, Nat.reduceSub, Nat.not_lt_zero, Nat.zero_le, reduceCtorEq, ite_self, n_rem, and_self, and_true, true_and, and_false, false_and, q1]
    exact dead f x I1 J 0 (by omega) s1 Q
  · rw [ap_r] at s1
    rw [ap_r]
    unfold eth
    rcases e1 : (bth b n ask) p with ⟨f, x⟩ | ⟨c, p1⟩
    · rw [e1, fin_l] at s1
      have s1 : DdC I1 t f x := s1
      refine ⟨I1, f1, s1, fun Q => ?_⟩
      simp (disch := first | assumption | omega | decide) only [x44_0, x44_1, x44_2, x44_3, x44_4, ↓reduceIte, Option.toList, List.nil_append, List.cons_append, nI_add, pk_mul, n_and, n_or, n_xor, nI_leI, nI_ltI, nI_eq, n_z, uI_s, uI_n, bI_n0, bI_n1, bT, bF, if_true, if_false, not_true, not_false_eq_true, pk_div, pk_rem, Nat.reduceEqDiff, Nat.reduceLeDiff, Nat.reduceLT, Nat.reduceAdd, Nat.reduceMul, Nat.reduceSub, Nat.not_lt_zero, Nat.zero_le, reduceCtorEq, ite_self, n_rem, and_self, and_true, true_and, and_false, false_and, q1]
      exact dead f x I1 J 0 (by omega) s1 Q
    · rw [e1, fin_r] at s1
      rw [bnd_r]
      obtain ⟨I2, f2, s2, q2⟩ := loop cs 300 0 c p1 I1 J rfl s1
      refine ⟨I2, FrZ_t f1 f2, s2, fun Q => ?_⟩
      rw [← q2 Q]
      simp (disch := first | assumption | omega | decide) only [x44_0, x44_1, x44_2, x44_3, x44_4, ↓reduceIte, Option.toList, List.nil_append, List.cons_append, nI_add, pk_mul, n_and, n_or, n_xor, nI_leI, nI_ltI, nI_eq, n_z, uI_s, uI_n, bI_n0, bI_n1, bT, bF, if_true, if_false, not_true, not_false_eq_true, pk_div, pk_rem, Nat.reduceEqDiff, Nat.reduceLeDiff, Nat.reduceLT, Nat.reduceAdd, Nat.reduceMul, Nat.reduceSub, Nat.not_lt_zero, Nat.zero_le, reduceCtorEq, ite_self, n_rem, and_self, and_true, true_and, and_false, false_and, q1]
end ReadC
