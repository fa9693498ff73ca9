/-! who can hear; tell -/
def canB (f : (Nat → Nat) → Nat → Nat → Int32) (A : Nat → Nat) (h r : Nat) : Bool := !decide (A (12 + h) / 2 ^ r % 2 = 1) && decide (pcN (A (12 + h)) < A (32 + h)) && decide ((0 : Int32) < f A h r)
section Tell
variable {sc : Sc} {d : Nat} {I : Nat → Nat → Int32} {J : Nat → Nat → Int64} {T : Option Nat} {A : Nat → Nat} {M : Nat → Nat → Int32} {tx : Nat} {f : (Nat → Nat) → Nat → Nat → Int32}
theorem sp_canCa {h r : Nat} (hC : BelC M tx f) (w : Wf A) (hh : h < 8) (hr : r < A 1) (t : Twn I 1 2 3 4 5 6 7 8 9 A) (eM : txI I = M) : ∃ I', (∀ c k, c ≠ 69 ∧ c ≠ 70 → I' c k = I c k) ∧ ∀ Q, Rn sc (d + 5) 1 0 [some (.ref 71), some (.ref 1), some (LwC tx), some (.int (nI h)), some (.int (nI r))] [] (K0, I, J, R1 T) Q = Q (some (.int (bo (canB f A h r)))) (K0, I', J, R1 T) := by
  have w1 : A 1 ≤ 4 := w.1.2.1
  have lk := keep_lt w hh
  have l4 : A (12 + h) < 256 := by omega
  have l5 := pc_8 _ l4
  have l6 : A (32 + h) ≤ 4 := w.2.1.2.2.1 h hh
  unfold canB
  by_cases c1 : A (12 + h) / 2 ^ r % 2 = 1
  · rw [decide_eq_true c1]
    refine ⟨I, fun _ _ _ => rfl, fun Q => ?_⟩
    rcases lw_or tx with ⟨a, e⟩ | e <;> rw [e] <;> simp (disch := first | assumption | omega | decide) only [x1a_0, x1a_1, x1a_2, x1a_3, x1a_4, x1a_5, x1a_6, x1a_7, x1a_8, x1a_9, x1a_10, x1a_11, x1a_12, x1a_13, x1a_14, x1a_15, x1a_16r, x1a_16n, x1a_17, x1a_18, x1a_19, x1a_20r, x1a_20n, x1a_21, x1a_22, x1a_23, x1a_24, x1a_25, ↓reduceIte, Option.toList, List.nil_append, List.cons_append, nI_add, pk_mul, n_and, n_or, n_xor, nI_leI, nI_ltI, nI_eq, n_z, uI_s, uI_n, bI_n0, bI_n1, bT, bF, if_true, if_false, not_true, not_false_eq_true, pk_div, pk_rem, Nat.reduceEqDiff, Nat.reduceLeDiff, Nat.reduceLT, Nat.reduceAdd, Nat.reduceMul, Nat.reduceSub, Nat.not_lt_zero, Nat.zero_le, reduceCtorEq, ite_self, n_rem, and_self, and_true, true_and, and_false, false_and, sp_keepsCa hh hr w1 t, c1] <;> rfl
  · rw [decide_eq_false c1]
    by_cases c2 : pcN (A (12 + h)) < A (32 + h)
    · rw [decide_eq_true c2]
      have c2' : ¬ A (32 + h) ≤ pcN (A (12 + h)) := by omega
      obtain ⟨p1, p2⟩ := hC sc d J T A I h r w hh hr eM
      obtain ⟨I1, f1, q1⟩ := p1 t
      refine ⟨I1, f1, fun Q => ?_⟩
      by_cases c3 : (0 : Int32) < f A h r
      · have c3' : ¬ f A h r ≤ nI 0 := Int32.not_le.mpr c3
        rw [decide_eq_true c3]
        rcases lw_or tx with ⟨a, e⟩ | e <;> rw [e] at q1 ⊢ <;> simp (disch := first | assumption | omega | decide) only [x1a_0, x1a_1, x1a_2, x1a_3, x1a_4, x1a_5, x1a_6, x1a_7, x1a_8, x1a_9, x1a_10, x1a_11, x1a_12, x1a_13, x1a_14, x1a_15, x1a_16r, x1a_16n, x1a_17, x1a_18, x1a_19, x1a_20r, x1a_20n, x1a_21, x1a_22, x1a_23, x1a_24, x1a_25, ↓reduceIte, Option.toList, List.nil_append, List.cons_append, nI_add, pk_mul, n_and, n_or, n_xor, nI_leI, nI_ltI, nI_eq, n_z, uI_s, uI_n, bI_n0, bI_n1, bT, bF, if_true, if_false, not_true, not_false_eq_true, pk_div, pk_rem, Nat.reduceEqDiff, Nat.reduceLeDiff, Nat.reduceLT, Nat.reduceAdd, Nat.reduceMul, Nat.reduceSub, Nat.not_lt_zero, Nat.zero_le, reduceCtorEq, ite_self, n_rem, and_self, and_true, true_and, and_false, false_and, sp_keepsCa hh hr w1 t, c1, sp_atCa hh w1 (w.2.1.1 h hh) t, sp_bitCount, tw_rooms t hh, c2', q1, c3'] <;> rfl
      · have c3' : f A h r ≤ nI 0 := Int32.not_lt.mp c3
        rw [decide_eq_false c3]
        rcases lw_or tx with ⟨a, e⟩ | e <;> rw [e] at q1 ⊢ <;> simp (disch := first | assumption | omega | decide) only [x1a_0, x1a_1, x1a_2, x1a_3, x1a_4, x1a_5, x1a_6, x1a_7, x1a_8, x1a_9, x1a_10, x1a_11, x1a_12, x1a_13, x1a_14, x1a_15, x1a_16r, x1a_16n, x1a_17, x1a_18, x1a_19, x1a_20r, x1a_20n, x1a_21, x1a_22, x1a_23, x1a_24, x1a_25, ↓reduceIte, Option.toList, List.nil_append, List.cons_append, nI_add, pk_mul, n_and, n_or, n_xor, nI_leI, nI_ltI, nI_eq, n_z, uI_s, uI_n, bI_n0, bI_n1, bT, bF, if_true, if_false, not_true, not_false_eq_true, pk_div, pk_rem, Nat.reduceEqDiff, Nat.reduceLeDiff, Nat.reduceLT, Nat.reduceAdd, Nat.reduceMul, Nat.reduceSub, Nat.not_lt_zero, Nat.zero_le, reduceCtorEq, ite_self, n_rem, and_self, and_true, true_and, and_false, false_and, sp_keepsCa hh hr w1 t, c1, sp_atCa hh w1 (w.2.1.1 h hh) t, sp_bitCount, tw_rooms t hh, c2', q1, c3'] <;> rfl
    · have c2' : A (32 + h) ≤ pcN (A (12 + h)) := by omega
      rw [decide_eq_false c2]
      refine ⟨I, fun _ _ _ => rfl, fun Q => ?_⟩
      rcases lw_or tx with ⟨a, e⟩ | e <;> rw [e] <;> simp (disch := first | assumption | omega | decide) only [x1a_0, x1a_1, x1a_2, x1a_3, x1a_4, x1a_5, x1a_6, x1a_7, x1a_8, x1a_9, x1a_10, x1a_11, x1a_12, x1a_13, x1a_14, x1a_15, x1a_16r, x1a_16n, x1a_17, x1a_18, x1a_19, x1a_20r, x1a_20n, x1a_21, x1a_22, x1a_23, x1a_24, x1a_25, ↓reduceIte, Option.toList, List.nil_append, List.cons_append, nI_add, pk_mul, n_and, n_or, n_xor, nI_leI, nI_ltI, nI_eq, n_z, uI_s, uI_n, bI_n0, bI_n1, bT, bF, if_true, if_false, not_true, not_false_eq_true, pk_div, pk_rem, Nat.reduceEqDiff, Nat.reduceLeDiff, Nat.reduceLT, Nat.reduceAdd, Nat.reduceMul, Nat.reduceSub, Nat.not_lt_zero, Nat.zero_le, reduceCtorEq, ite_self, n_rem, and_self, and_true, true_and, and_false, false_and, sp_keepsCa hh hr w1 t, c1, sp_atCa hh w1 (w.2.1.1 h hh) t, sp_bitCount, tw_rooms t hh, c2'] <;> rfl
theorem sp_canCb {h r : Nat} (hC : BelC M tx f) (w : Wf A) (hh : h < 8) (hr : r < A 1) (t : Twn I 19 20 21 22 23 24 25 26 27 A) (eM : txI I = M) : ∃ I', (∀ c k, c ≠ 69 ∧ c ≠ 70 → I' c k = I c k) ∧ ∀ Q, Rn sc (d + 5) 1 0 [some (.ref 71), some (.ref 19), some (LwC tx), some (.int (nI h)), some (.int (nI r))] [] (K0, I, J, R1 T) Q = Q (some (.int (bo (canB f A h r)))) (K0, I', J, R1 T) := by
  have w1 : A 1 ≤ 4 := w.1.2.1
  have lk := keep_lt w hh
  have l4 : A (12 + h) < 256 := by omega
  have l5 := pc_8 _ l4
  have l6 : A (32 + h) ≤ 4 := w.2.1.2.2.1 h hh
  unfold canB
  by_cases c1 : A (12 + h) / 2 ^ r % 2 = 1
  · rw [decide_eq_true c1]
    refine ⟨I, fun _ _ _ => rfl, fun Q => ?_⟩
    rcases lw_or tx with ⟨a, e⟩ | e <;> rw [e] <;> simp (disch := first | assumption | omega | decide) only [x1b_0, x1b_1, x1b_2, x1b_3, x1b_4, x1b_5, x1b_6, x1b_7, x1b_8, x1b_9, x1b_10, x1b_11, x1b_12, x1b_13, x1b_14, x1b_15, x1b_16r, x1b_16n, x1b_17, x1b_18, x1b_19, x1b_20r, x1b_20n, x1b_21, x1b_22, x1b_23, x1b_24, x1b_25, ↓reduceIte, Option.toList, List.nil_append, List.cons_append, nI_add, pk_mul, n_and, n_or, n_xor, nI_leI, nI_ltI, nI_eq, n_z, uI_s, uI_n, bI_n0, bI_n1, bT, bF, if_true, if_false, not_true, not_false_eq_true, pk_div, pk_rem, Nat.reduceEqDiff, Nat.reduceLeDiff, Nat.reduceLT, Nat.reduceAdd, Nat.reduceMul, Nat.reduceSub, Nat.not_lt_zero, Nat.zero_le, reduceCtorEq, ite_self, n_rem, and_self, and_true, true_and, and_false, false_and, sp_keepsCb hh hr w1 t, c1] <;> rfl
  · rw [decide_eq_false c1]
    by_cases c2 : pcN (A (12 + h)) < A (32 + h)
    · rw [decide_eq_true c2]
      have c2' : ¬ A (32 + h) ≤ pcN (A (12 + h)) := by omega
      obtain ⟨p1, p2⟩ := hC sc d J T A I h r w hh hr eM
      obtain ⟨I1, f1, q1⟩ := p2 t
      refine ⟨I1, f1, fun Q => ?_⟩
      by_cases c3 : (0 : Int32) < f A h r
      · have c3' : ¬ f A h r ≤ nI 0 := Int32.not_le.mpr c3
        rw [decide_eq_true c3]
        rcases lw_or tx with ⟨a, e⟩ | e <;> rw [e] at q1 ⊢ <;> simp (disch := first | assumption | omega | decide) only [x1b_0, x1b_1, x1b_2, x1b_3, x1b_4, x1b_5, x1b_6, x1b_7, x1b_8, x1b_9, x1b_10, x1b_11, x1b_12, x1b_13, x1b_14, x1b_15, x1b_16r, x1b_16n, x1b_17, x1b_18, x1b_19, x1b_20r, x1b_20n, x1b_21, x1b_22, x1b_23, x1b_24, x1b_25, ↓reduceIte, Option.toList, List.nil_append, List.cons_append, nI_add, pk_mul, n_and, n_or, n_xor, nI_leI, nI_ltI, nI_eq, n_z, uI_s, uI_n, bI_n0, bI_n1, bT, bF, if_true, if_false, not_true, not_false_eq_true, pk_div, pk_rem, Nat.reduceEqDiff, Nat.reduceLeDiff, Nat.reduceLT, Nat.reduceAdd, Nat.reduceMul, Nat.reduceSub, Nat.not_lt_zero, Nat.zero_le, reduceCtorEq, ite_self, n_rem, and_self, and_true, true_and, and_false, false_and, sp_keepsCb hh hr w1 t, c1, sp_atCb hh w1 (w.2.1.1 h hh) t, sp_bitCount, tw_rooms t hh, c2', q1, c3'] <;> rfl
      · have c3' : f A h r ≤ nI 0 := Int32.not_lt.mp c3
        rw [decide_eq_false c3]
        rcases lw_or tx with ⟨a, e⟩ | e <;> rw [e] at q1 ⊢ <;> simp (disch := first | assumption | omega | decide) only [x1b_0, x1b_1, x1b_2, x1b_3, x1b_4, x1b_5, x1b_6, x1b_7, x1b_8, x1b_9, x1b_10, x1b_11, x1b_12, x1b_13, x1b_14, x1b_15, x1b_16r, x1b_16n, x1b_17, x1b_18, x1b_19, x1b_20r, x1b_20n, x1b_21, x1b_22, x1b_23, x1b_24, x1b_25, ↓reduceIte, Option.toList, List.nil_append, List.cons_append, nI_add, pk_mul, n_and, n_or, n_xor, nI_leI, nI_ltI, nI_eq, n_z, uI_s, uI_n, bI_n0, bI_n1, bT, bF, if_true, if_false, not_true, not_false_eq_true, pk_div, pk_rem, Nat.reduceEqDiff, Nat.reduceLeDiff, Nat.reduceLT, Nat.reduceAdd, Nat.reduceMul, Nat.reduceSub, Nat.not_lt_zero, Nat.zero_le, reduceCtorEq, ite_self, n_rem, and_self, and_true, true_and, and_false, false_and, sp_keepsCb hh hr w1 t, c1, sp_atCb hh w1 (w.2.1.1 h hh) t, sp_bitCount, tw_rooms t hh, c2', q1, c3'] <;> rfl
    · have c2' : A (32 + h) ≤ pcN (A (12 + h)) := by omega
      rw [decide_eq_false c2]
      refine ⟨I, fun _ _ _ => rfl, fun Q => ?_⟩
      rcases lw_or tx with ⟨a, e⟩ | e <;> rw [e] <;> simp (disch := first | assumption | omega | decide) only [x1b_0, x1b_1, x1b_2, x1b_3, x1b_4, x1b_5, x1b_6, x1b_7, x1b_8, x1b_9, x1b_10, x1b_11, x1b_12, x1b_13, x1b_14, x1b_15, x1b_16r, x1b_16n, x1b_17, x1b_18, x1b_19, x1b_20r, x1b_20n, x1b_21, x1b_22, x1b_23, x1b_24, x1b_25, ↓reduceIte, Option.toList, List.nil_append, List.cons_append, nI_add, pk_mul, n_and, n_or, n_xor, nI_leI, nI_ltI, nI_eq, n_z, uI_s, uI_n, bI_n0, bI_n1, bT, bF, if_true, if_false, not_true, not_false_eq_true, pk_div, pk_rem, Nat.reduceEqDiff, Nat.reduceLeDiff, Nat.reduceLT, Nat.reduceAdd, Nat.reduceMul, Nat.reduceSub, Nat.not_lt_zero, Nat.zero_le, reduceCtorEq, ite_self, n_rem, and_self, and_true, true_and, and_false, false_and, sp_keepsCb hh hr w1 t, c1, sp_atCb hh w1 (w.2.1.1 h hh) t, sp_bitCount, tw_rooms t hh, c2'] <;> rfl
theorem sp_canM {h r : Nat} (hM : BelM M tx f) (w : Wf A) (hh : h < 8) (hr : r < A 1) (m : AtM I 90 A) (eM : txI I = M) (e3 : A 3 = tx) : ∃ I' J', (∀ c k, c ≠ 95 ∧ c ≠ 97 → I' c k = I c k) ∧ ∀ Q, Rn sc (d + 6) 235 0 [some (.ref 89), some (.int (nI h)), some (.int (nI r))] [] (K0, I, J, R1 T) Q = Q (some (.int (bo (canB f A h r)))) (K0, I', J', R1 T) := by
  have m' : ∀ k, k < 1799 → I 90 k = nI (A k) := m
  have w1 : A 1 ≤ 4 := w.1.2.1
  have lk := keep_lt w hh
  have l5 := pc_8 _ (show A (12 + h) < 256 by omega)
  have l6 : A (32 + h) ≤ 4 := w.2.1.2.2.1 h hh
  unfold canB
  by_cases c1 : A (12 + h) / 2 ^ r % 2 = 1
  · rw [decide_eq_true c1]
    refine ⟨I, J, fun _ _ _ => rfl, fun Q => ?_⟩
    simp (disch := first | assumption | omega | decide) only [x235_0, x235_1, x235_2, x235_3, x235_4, x235_5, x235_6, x235_7, x235_8, x235_9, x235_10, x235_11, x235_12, x235_13, x235_14, x235_15, x235_16, x235_17, x235_18, x235_19, x235_20, x235_21, x235_22, x235_23, x235_24, x235_25, x235_26, x235_27, x235_28, x235_29, x235_30, x235_31, x235_32, x235_33, x235_34, x235_35, x235_36, x235_37, x235_38, ↓reduceIte, Option.toList, List.nil_append, List.cons_append, nI_add, pk_mul, n_and, n_or, n_xor, nI_leI, nI_ltI, nI_eq, n_z, uI_s, uI_n, bI_n0, bI_n1, bT, bF, if_true, if_false, not_true, not_false_eq_true, pk_div, pk_rem, Nat.reduceEqDiff, Nat.reduceLeDiff, Nat.reduceLT, Nat.reduceAdd, Nat.reduceMul, Nat.reduceSub, Nat.not_lt_zero, Nat.zero_le, reduceCtorEq, ite_self, n_rem, and_self, and_true, true_and, and_false, false_and, sp_houM_t hh, sp_rumM_t hr w1 (m 1 (by decide)), m', sp_has, c1]
    rfl
  · rw [decide_eq_false c1]
    by_cases c2 : pcN (A (12 + h)) < A (32 + h)
    · rw [decide_eq_true c2]
      have c2' : ¬ A (32 + h) ≤ pcN (A (12 + h)) := by omega
      obtain ⟨I1, J1, f1, q1⟩ := hM sc d J T A I h r w hh hr eM m e3
      refine ⟨I1, J1, f1, fun Q => ?_⟩
      by_cases c3 : (0 : Int32) < f A h r
      · have c3' : ¬ f A h r ≤ nI 0 := Int32.not_le.mpr c3
        rw [decide_eq_true c3]
        simp (disch := first | assumption | omega | decide) only [x235_0, x235_1, x235_2, x235_3, x235_4, x235_5, x235_6, x235_7, x235_8, x235_9, x235_10, x235_11, x235_12, x235_13, x235_14, x235_15, x235_16, x235_17, x235_18, x235_19, x235_20, x235_21, x235_22, x235_23, x235_24, x235_25, x235_26, x235_27, x235_28, x235_29, x235_30, x235_31, x235_32, x235_33, x235_34, x235_35, x235_36, x235_37, x235_38, ↓reduceIte, Option.toList, List.nil_append, List.cons_append, nI_add, pk_mul, n_and, n_or, n_xor, nI_leI, nI_ltI, nI_eq, n_z, uI_s, uI_n, bI_n0, bI_n1, bT, bF, if_true, if_false, not_true, not_false_eq_true, pk_div, pk_rem, Nat.reduceEqDiff, Nat.reduceLeDiff, Nat.reduceLT, Nat.reduceAdd, Nat.reduceMul, Nat.reduceSub, Nat.not_lt_zero, Nat.zero_le, reduceCtorEq, ite_self, n_rem, and_self, and_true, true_and, and_false, false_and, sp_houM_t hh, sp_rumM_t hr w1 (m 1 (by decide)), m', sp_has, c1, sp_bits, c2', q1, c3']
        rfl
      · have c3' : f A h r ≤ nI 0 := Int32.not_lt.mp c3
        rw [decide_eq_false c3]
        simp (disch := first | assumption | omega | decide) only [x235_0, x235_1, x235_2, x235_3, x235_4, x235_5, x235_6, x235_7, x235_8, x235_9, x235_10, x235_11, x235_12, x235_13, x235_14, x235_15, x235_16, x235_17, x235_18, x235_19, x235_20, x235_21, x235_22, x235_23, x235_24, x235_25, x235_26, x235_27, x235_28, x235_29, x235_30, x235_31, x235_32, x235_33, x235_34, x235_35, x235_36, x235_37, x235_38, ↓reduceIte, Option.toList, List.nil_append, List.cons_append, nI_add, pk_mul, n_and, n_or, n_xor, nI_leI, nI_ltI, nI_eq, n_z, uI_s, uI_n, bI_n0, bI_n1, bT, bF, if_true, if_false, not_true, not_false_eq_true, pk_div, pk_rem, Nat.reduceEqDiff, Nat.reduceLeDiff, Nat.reduceLT, Nat.reduceAdd, Nat.reduceMul, Nat.reduceSub, Nat.not_lt_zero, Nat.zero_le, reduceCtorEq, ite_self, n_rem, and_self, and_true, true_and, and_false, false_and, sp_houM_t hh, sp_rumM_t hr w1 (m 1 (by decide)), m', sp_has, c1, sp_bits, c2', q1, c3']
        rfl
    · have c2' : A (32 + h) ≤ pcN (A (12 + h)) := by omega
      rw [decide_eq_false c2]
      refine ⟨I, J, fun _ _ _ => rfl, fun Q => ?_⟩
      simp (disch := first | assumption | omega | decide) only [x235_0, x235_1, x235_2, x235_3, x235_4, x235_5, x235_6, x235_7, x235_8, x235_9, x235_10, x235_11, x235_12, x235_13, x235_14, x235_15, x235_16, x235_17, x235_18, x235_19, x235_20, x235_21, x235_22, x235_23, x235_24, x235_25, x235_26, x235_27, x235_28, x235_29, x235_30, x235_31, x235_32, x235_33, x235_34, x235_35, x235_36, x235_37, x235_38, ↓reduceIte, Option.toList, List.nil_append, List.cons_append, nI_add, pk_mul, n_and, n_or, n_xor, nI_leI, nI_ltI, nI_eq, n_z, uI_s, uI_n, bI_n0, bI_n1, bT, bF, if_true, if_false, not_true, not_false_eq_true, pk_div, pk_rem, Nat.reduceEqDiff, Nat.reduceLeDiff, Nat.reduceLT, Nat.reduceAdd, Nat.reduceMul, Nat.reduceSub, Nat.not_lt_zero, Nat.zero_le, reduceCtorEq, ite_self, n_rem, and_self, and_true, true_and, and_false, false_and, sp_houM_t hh, sp_rumM_t hr w1 (m 1 (by decide)), m', sp_has, c1, sp_bits, c2']
      rfl
theorem jp_tell {x y : Int32} : JtP TXp P2 sc (d + 8) 116 243 [some (.ref 0), some (.int x), some (.int y)] [some (.ref 89), some (.int x), some (.int y)] := by
  intro A B M w hX
  have w' := w
  obtain ⟨wA, wB, wt⟩ := w
  have w1 : A 1 ≤ 4 := wA.1.2.1
  have w4 : A 4 ≤ 30 := wA.1.2.2.2.2.1
  by_cases hx : inR x 8
  · obtain ⟨h, hh, rfl⟩ := hx
    by_cases hy : inR y (A 1)
    · obtain ⟨r, hr, rfl⟩ := hy
      obtain ⟨f, hC, hM⟩ := bel_ex (law_ok wA hX)
      cases hc : canB f A h r
      · refine ⟨nI 0, A, B, Or.inl rfl, w', Nat.le_refl _, ?_, ?_⟩
        · intro I J T cI eM
          obtain ⟨I1, f1, q1⟩ := sp_canCa (sc := sc) (d := d + 2) (J := J) (T := T) hC wA hh hr cI.1 eM
          rw [hc] at q1
          refine ⟨I1, fun c k hc => f1 c k (by omega), CI_c w' cI (fun c k hc => f1 c k (by omega)), fun Q => ?_⟩
          have hr' := fun Q => sp_ruling (Q := Q) (sc := sc) (d := d + 6) (J := J) (T := T) wA cI.1
          rcases lw_or (A 3) with ⟨a, e⟩ | e <;> rw [e] at q1 hr' <;> simp (disch := first | assumption | omega | decide) only [x116_0, x116_1, x116_2, x116_3, x116_4, x116_5, x116_6, x116_7, x116_8, x116_9, x116_10, x116_11, x116_12, x116_13, x116_14, x116_15, x116_16r, x116_16n, x116_17, x116_18, x116_19, x116_20, x116_21, x116_22, x116_23, x116_24, x116_25, x116_26, x116_27, x116_28, x116_29, x116_30, x116_31, ↓reduceIte, Option.toList, List.nil_append, List.cons_append, nI_add, pk_mul, n_and, n_or, n_xor, nI_leI, nI_ltI, nI_eq, n_z, uI_s, uI_n, bI_n0, bI_n1, bT, bF, if_true, if_false, not_true, not_false_eq_true, pk_div, pk_rem, Nat.reduceEqDiff, Nat.reduceLeDiff, Nat.reduceLT, Nat.reduceAdd, Nat.reduceMul, Nat.reduceSub, Nat.not_lt_zero, Nat.zero_le, reduceCtorEq, ite_self, n_rem, and_self, and_true, true_and, and_false, false_and, sp_houC_t hh, sp_rumC_ta hr w1 (tw_rumours cI.1), hr', q1, show bo false = nI 0 from rfl]
        · intro I J T mI eM
          obtain ⟨I1, J1, f1, q1⟩ := sp_canM (sc := sc) (d := d + 1) (J := J) (T := T) hM wA hh hr mI.1 eM rfl
          rw [hc] at q1
          refine ⟨I1, J1, ⟨fun c k hc => f1 c k (by omega), fun k hk => f1 _ _ (by omega)⟩, MI_c mI (fun c k hc => f1 c k (by omega)) (f1 _ _ (by omega)), fun Q => ?_⟩
          simp (disch := first | assumption | omega | decide) only [x243_0, x243_1, x243_2, x243_3, x243_4, x243_5, x243_6, x243_7, x243_8, x243_9, x243_10, x243_11, x243_12, x243_13, x243_14, ↓reduceIte, Option.toList, List.nil_append, List.cons_append, nI_add, pk_mul, n_and, n_or, n_xor, nI_leI, nI_ltI, nI_eq, n_z, uI_s, uI_n, bI_n0, bI_n1, bT, bF, if_true, if_false, not_true, not_false_eq_true, pk_div, pk_rem, Nat.reduceEqDiff, Nat.reduceLeDiff, Nat.reduceLT, Nat.reduceAdd, Nat.reduceMul, Nat.reduceSub, Nat.not_lt_zero, Nat.zero_le, reduceCtorEq, ite_self, n_rem, and_self, and_true, true_and, and_false, false_and, q1, show bo false = nI 0 from rfl]
      · have fA : ∀ k, (k < 119 ∧ k ≠ 4 ∧ k ≠ 11 ∧ k ≠ 12 + h) → tlA (svA A) h r k = A k := fun k hk => (tl_o (by omega)).trans (sv_o w4 (by omega))
        have hr' : r < svA A 1 := by rw [sv_o w4 (by omega)]; exact hr
        have f2 : tlA (svA A) h r 2 = A 2 := fA 2 (by omega)
        refine ⟨nI 1, tlA (svA A) h r, B, Or.inr rfl, ⟨tl_W (sv_W wA) hh hr', wB, by omega⟩, by omega, ?_, ?_⟩
        · intro I J T cI eM
          obtain ⟨I1, f1, q1⟩ := sp_canCa (sc := sc) (d := d + 2) (J := J) (T := T) hC wA hh hr cI.1 eM
          rw [hc] at q1
          have cI1 : CI I1 A B := CI_c w' cI (fun c k hc => f1 c k (by omega))
          obtain ⟨I2, f2, s2, q2⟩ := sp_save (sc := sc) (d := d + 7) (J := J) (T := T) (u2 := none) (u3 := none) (u4 := none) wA cI1.1 cI1.2.2.1
          obtain ⟨I3, f3, t3, q3⟩ := sp_keepTa (sc := sc) (d := d + 7) (J := J) (T := T) (sv_W wA) hh hr' (sv_T wA cI1.1 f2)
          refine ⟨I3, fun c k hc => (f3 c k (by omega)).trans ((f2 c k (by omega)).trans (f1 c k (by omega))), CI_sv w' cI1 t3 (Stw_c s2 (fun c k hc => f3 c k (by omega)) (tl_o (by omega)) (fun k h1 h2 => tl_o (by omega)) (sv_W wA)) (fun k hk => fA k (by omega)) (fun c k hc => (f3 c k (by omega)).trans (f2 c k (by omega))), fun Q => ?_⟩
          have hr' := fun Q => sp_ruling (Q := Q) (sc := sc) (d := d + 6) (J := J) (T := T) wA cI.1
          rcases lw_or (A 3) with ⟨a, e⟩ | e <;> rw [e] at q1 hr' <;> simp (disch := first | assumption | omega | decide) only [x116_0, x116_1, x116_2, x116_3, x116_4, x116_5, x116_6, x116_7, x116_8, x116_9, x116_10, x116_11, x116_12, x116_13, x116_14, x116_15, x116_16r, x116_16n, x116_17, x116_18, x116_19, x116_20, x116_21, x116_22, x116_23, x116_24, x116_25, x116_26, x116_27, x116_28, x116_29, x116_30, x116_31, ↓reduceIte, Option.toList, List.nil_append, List.cons_append, nI_add, pk_mul, n_and, n_or, n_xor, nI_leI, nI_ltI, nI_eq, n_z, uI_s, uI_n, bI_n0, bI_n1, bT, bF, if_true, if_false, not_true, not_false_eq_true, pk_div, pk_rem, Nat.reduceEqDiff, Nat.reduceLeDiff, Nat.reduceLT, Nat.reduceAdd, Nat.reduceMul, Nat.reduceSub, Nat.not_lt_zero, Nat.zero_le, reduceCtorEq, ite_self, n_rem, and_self, and_true, true_and, and_false, false_and, sp_houC_t hh, sp_rumC_ta hr w1 (tw_rumours cI.1), hr', q1, show bo true = nI 1 from rfl, q2, q3]
        · intro I J T mI eM
          obtain ⟨I1, J1, f1, q1⟩ := sp_canM (sc := sc) (d := d + 1) (J := J) (T := T) hM wA hh hr mI.1 eM rfl
          rw [hc] at q1
          have mI1 : MI I1 A B := MI_c mI (fun c k hc => f1 c k (by omega)) (f1 _ _ (by omega))
          obtain ⟨I2, f2, a2, q2⟩ := sp_keepM (sc := sc) (d := d + 7) (J := J1) (T := T) (u1 := none) (u2 := none) wA mI1.1
          obtain ⟨I3, f3, a3, q3⟩ := sp_tellM1 (sc := sc) (d := d + 6) (J := J1) (T := T) (sv_W wA) hh hr' a2 ((f2 _ _ (by omega)).trans mI1.2.2)
          refine ⟨I3, J1, ⟨fun c k hc => (f3 c k (by omega)).trans ((f2 c k (by omega)).trans (f1 c k (by omega))), fun k hk => (f3 _ _ (by omega)).trans ((f2 _ _ (by omega)).trans (f1 _ _ (by omega)))⟩, ⟨a3, AtM_c mI1.2.1 (fun k => (f3 _ _ (by omega)).trans (f2 _ _ (by omega))), ((f3 _ _ (by omega)).trans (f2 _ _ (by omega))).trans mI1.2.2⟩, fun Q => ?_⟩
          simp (disch := first | assumption | omega | decide) only [x243_0, x243_1, x243_2, x243_3, x243_4, x243_5, x243_6, x243_7, x243_8, x243_9, x243_10, x243_11, x243_12, x243_13, x243_14, ↓reduceIte, Option.toList, List.nil_append, List.cons_append, nI_add, pk_mul, n_and, n_or, n_xor, nI_leI, nI_ltI, nI_eq, n_z, uI_s, uI_n, bI_n0, bI_n1, bT, bF, if_true, if_false, not_true, not_false_eq_true, pk_div, pk_rem, Nat.reduceEqDiff, Nat.reduceLeDiff, Nat.reduceLT, Nat.reduceAdd, Nat.reduceMul, Nat.reduceSub, Nat.not_lt_zero, Nat.zero_le, reduceCtorEq, ite_self, n_rem, and_self, and_true, true_and, and_false, false_and, q1, show bo true = nI 1 from rfl, q2, q3]
    · refine jtRP w' (nI 0) (Or.inl rfl) ?_ ?_ <;> intro I J T Q hI
      · simp (disch := first | assumption | omega | decide) only [x116_0, x116_1, x116_2, x116_3, x116_4, x116_5, x116_6, x116_7, x116_8, x116_9, x116_10, x116_11, x116_12, x116_13, x116_14, x116_15, x116_16r, x116_16n, x116_17, x116_18, x116_19, x116_20, x116_21, x116_22, x116_23, x116_24, x116_25, x116_26, x116_27, x116_28, x116_29, x116_30, x116_31, ↓reduceIte, Option.toList, List.nil_append, List.cons_append, nI_add, pk_mul, n_and, n_or, n_xor, nI_leI, nI_ltI, nI_eq, n_z, uI_s, uI_n, bI_n0, bI_n1, bT, bF, if_true, if_false, not_true, not_false_eq_true, pk_div, pk_rem, Nat.reduceEqDiff, Nat.reduceLeDiff, Nat.reduceLT, Nat.reduceAdd, Nat.reduceMul, Nat.reduceSub, Nat.not_lt_zero, Nat.zero_le, reduceCtorEq, ite_self, n_rem, and_self, and_true, true_and, and_false, false_and, sp_houC_t, sp_rumC_fa hy w1 (tw_rumours hI.1)]
      · simp (disch := first | assumption | omega | decide) only [x243_0, x243_1, x243_2, x243_3, x243_4, x243_5, x243_6, x243_7, x243_8, x243_9, x243_10, x243_11, x243_12, x243_13, x243_14, x235_0, x235_1, x235_2, x235_3, x235_4, x235_5, x235_6, x235_7, x235_8, x235_9, x235_10, x235_11, x235_12, x235_13, x235_14, x235_15, x235_16, x235_17, x235_18, x235_19, x235_20, x235_21, x235_22, x235_23, x235_24, x235_25, x235_26, x235_27, x235_28, x235_29, x235_30, x235_31, x235_32, x235_33, x235_34, x235_35, x235_36, x235_37, x235_38, ↓reduceIte, Option.toList, List.nil_append, List.cons_append, nI_add, pk_mul, n_and, n_or, n_xor, nI_leI, nI_ltI, nI_eq, n_z, uI_s, uI_n, bI_n0, bI_n1, bT, bF, if_true, if_false, not_true, not_false_eq_true, pk_div, pk_rem, Nat.reduceEqDiff, Nat.reduceLeDiff, Nat.reduceLT, Nat.reduceAdd, Nat.reduceMul, Nat.reduceSub, Nat.not_lt_zero, Nat.zero_le, reduceCtorEq, ite_self, n_rem, and_self, and_true, true_and, and_false, false_and, sp_houM_t, sp_rumM_f hy w1 (hI.1 1 (by decide))]
  · refine jtRP w' (nI 0) (Or.inl rfl) ?_ ?_ <;> intro I J T Q hI
    · simp (disch := first | assumption | omega | decide) only [x116_0, x116_1, x116_2, x116_3, x116_4, x116_5, x116_6, x116_7, x116_8, x116_9, x116_10, x116_11, x116_12, x116_13, x116_14, x116_15, x116_16r, x116_16n, x116_17, x116_18, x116_19, x116_20, x116_21, x116_22, x116_23, x116_24, x116_25, x116_26, x116_27, x116_28, x116_29, x116_30, x116_31, ↓reduceIte, Option.toList, List.nil_append, List.cons_append, nI_add, pk_mul, n_and, n_or, n_xor, nI_leI, nI_ltI, nI_eq, n_z, uI_s, uI_n, bI_n0, bI_n1, bT, bF, if_true, if_false, not_true, not_false_eq_true, pk_div, pk_rem, Nat.reduceEqDiff, Nat.reduceLeDiff, Nat.reduceLT, Nat.reduceAdd, Nat.reduceMul, Nat.reduceSub, Nat.not_lt_zero, Nat.zero_le, reduceCtorEq, ite_self, n_rem, and_self, and_true, true_and, and_false, false_and, sp_houC_f hx]
    · simp (disch := first | assumption | omega | decide) only [x243_0, x243_1, x243_2, x243_3, x243_4, x243_5, x243_6, x243_7, x243_8, x243_9, x243_10, x243_11, x243_12, x243_13, x243_14, x235_0, x235_1, x235_2, x235_3, x235_4, x235_5, x235_6, x235_7, x235_8, x235_9, x235_10, x235_11, x235_12, x235_13, x235_14, x235_15, x235_16, x235_17, x235_18, x235_19, x235_20, x235_21, x235_22, x235_23, x235_24, x235_25, x235_26, x235_27, x235_28, x235_29, x235_30, x235_31, x235_32, x235_33, x235_34, x235_35, x235_36, x235_37, x235_38, ↓reduceIte, Option.toList, List.nil_append, List.cons_append, nI_add, pk_mul, n_and, n_or, n_xor, nI_leI, nI_ltI, nI_eq, n_z, uI_s, uI_n, bI_n0, bI_n1, bT, bF, if_true, if_false, not_true, not_false_eq_true, pk_div, pk_rem, Nat.reduceEqDiff, Nat.reduceLeDiff, Nat.reduceLT, Nat.reduceAdd, Nat.reduceMul, Nat.reduceSub, Nat.not_lt_zero, Nat.zero_le, reduceCtorEq, ite_self, n_rem, and_self, and_true, true_and, and_false, false_and, sp_houM_f hx]
theorem jt_tell {x y : Int32} : Jt TXp sc (d + 8) 116 243 [some (.ref 0), some (.int x), some (.int y)] [some (.ref 89), some (.int x), some (.int y)] := JtP_f jp_tell
end Tell
