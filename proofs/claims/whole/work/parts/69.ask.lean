/-! who began it, whom to ask -/
theorem wh_b {P : Nat → Prop} {dp : ∀ t, Decidable (P t)} {h : Nat} : ∀ n, (whN P dp n).testBit h = true ↔ h < n ∧ P h
  | 0 => by
    rw [whN, Nat.zero_testBit]
    constructor
    · intro h; cases h
    · rintro ⟨h, -⟩; omega
  | n + 1 => by
    rw [whN, Nat.testBit_or, Bool.or_eq_true, wh_b n]
    constructor
    · rintro (h1 | h1)
      · exact ⟨by omega, h1.2⟩
      · by_cases c : P n
        · rw [if_pos c, Nat.testBit_two_pow, decide_eq_true_eq] at h1
          subst h1
          exact ⟨by omega, c⟩
        · rw [if_neg c, Nat.zero_testBit] at h1
          cases h1
    · rintro ⟨h1, h2⟩
      by_cases e : h = n
      · subst e
        right
        rw [if_pos h2, Nat.testBit_two_pow, decide_eq_true rfl]
      · exact Or.inl ⟨by omega, h2⟩
theorem wh_lt {P : Nat → Prop} {dp : ∀ t, Decidable (P t)} : ∀ n, n ≤ 8 → whN P dp n < 256
  | 0, _ => by rw [whN]; decide
  | n + 1, hn => by
    rw [whN]
    apply Nat.or_lt_two_pow (n := 8)
    · exact wh_lt n (by omega)
    · split
      · exact p2_lt (by omega)
      · decide
theorem wh_all {P : Nat → Prop} {dp : ∀ t, Decidable (P t)} (h : ∀ t, t < 8 → P t) : whN P dp 8 = 255 := by
  apply Nat.eq_of_testBit_eq
  intro i
  by_cases hi : i < 8
  · rw [t255 i hi]
    exact (wh_b 8).mpr ⟨hi, h i hi⟩
  · have z : ∀ x, x < 256 → x.testBit i = false := fun x hx => by
      cases c : x.testBit i
      · rfl
      · exact absurd (tb_lt hx c) hi
    rw [z _ (wh_lt 8 (by omega)), z 255 (by decide)]
def bgP (A : Nat → Nat) (err h : Nat) : Prop := okH A h ∧ (A 5 = 0 ∨ eH A h ≤ err)
section Began
variable {TX : (Nat → Nat → Int32) → Nat → Prop} {sc : Sc} {d : Nat} {J : Nat → Nat → Int64} {T : Option Nat} {A : Nat → Nat}
theorem sp_susp {I : Nat → Nat → Int32} {err : Nat} (he : err < 10) (w : Wf A) (g : ∀ h, h < 8 → Wgd I A h) (dp : ∀ h, Decidable (bgP A err h)) : ∀ Q, Rn sc d 8 0 [some (.ref 80), some (.int (nI err)), none, none] [] (K0, I, J, R1 T) Q = Q (some (.int (nI (whN (bgP A err) dp 8)))) (K0, I, J, R1 T) := by
  intro Q
  have hi := iter0 (fun j => Rn sc d 8 4 [some (.ref 80), some (.int (nI err)), some (.int (nI (whN (bgP A err) dp j))), some (.int (nI j))] [] (K0, I, J, R1 T) Q) 8 (by
    intro j hj
    show Rn _ _ _ _ _ _ _ _ = Rn _ _ _ _ _ _ _ _
    have lj : ¬ 8 ≤ j := by omega
    rw [x8_4, whN]
    rcases g j hj with ⟨o, -, e2⟩ | ⟨o, ⟨z, -, e2⟩ | ⟨p, -, e2⟩⟩
    · rw [if_neg (fun h => o h.1), Nat.or_zero]
      simp (disch := first | assumption | omega | decide) only [x8_0, x8_1, x8_2, x8_3, x8_5, x8_6, x8_7, x8_8, x8_9, x8_10, x8_11, x8_12, x8_13, x8_14, x8_15, x8_16, x8_17, x8_18, x8_19, x8_20, x8_21, x8_22, x8_23, x8_24, x8_25, x8_26, x8_27, x8_28, ↓reduceIte, Option.toList, List.nil_append, List.cons_append, nI_add, pk_mul, n_and, n_or, n_xor, nI_leI, nI_ltI, nI_eq, n_z, uI_s, uI_n, bI_n0, bI_n1, bT, bF, if_true, if_false, not_true, not_false_eq_true, pk_div, pk_rem, Nat.reduceEqDiff, Nat.reduceLeDiff, Nat.reduceLT, Nat.reduceAdd, Nat.reduceMul, Nat.reduceSub, Nat.not_lt_zero, Nat.zero_le, reduceCtorEq, ite_self, n_rem, and_self, and_true, true_and, and_false, false_and, lj, e2]
    · rw [if_pos ⟨o, Or.inl z⟩]
      simp (disch := first | assumption | omega | decide) only [x8_0, x8_1, x8_2, x8_3, x8_5, x8_6, x8_7, x8_8, x8_9, x8_10, x8_11, x8_12, x8_13, x8_14, x8_15, x8_16, x8_17, x8_18, x8_19, x8_20, x8_21, x8_22, x8_23, x8_24, x8_25, x8_26, x8_27, x8_28, ↓reduceIte, Option.toList, List.nil_append, List.cons_append, nI_add, pk_mul, n_and, n_or, n_xor, nI_leI, nI_ltI, nI_eq, n_z, uI_s, uI_n, bI_n0, bI_n1, bT, bF, if_true, if_false, not_true, not_false_eq_true, pk_div, pk_rem, Nat.reduceEqDiff, Nat.reduceLeDiff, Nat.reduceLT, Nat.reduceAdd, Nat.reduceMul, Nat.reduceSub, Nat.not_lt_zero, Nat.zero_le, reduceCtorEq, ite_self, n_rem, and_self, and_true, true_and, and_false, false_and, lj, e2, n_m1e (show 0 < 2 ^ 31 by decide), n_one]
    · obtain ⟨b1, b2, b3⟩ := lm_b w p o
      have le : eH A j < 1000 := by unfold eH; omega
      by_cases c : eH A j ≤ err
      · have c' : ¬ err < eH A j := by omega
        rw [if_pos ⟨o, Or.inr c⟩]
        simp (disch := first | assumption | omega | decide) only [x8_0, x8_1, x8_2, x8_3, x8_5, x8_6, x8_7, x8_8, x8_9, x8_10, x8_11, x8_12, x8_13, x8_14, x8_15, x8_16, x8_17, x8_18, x8_19, x8_20, x8_21, x8_22, x8_23, x8_24, x8_25, x8_26, x8_27, x8_28, ↓reduceIte, Option.toList, List.nil_append, List.cons_append, nI_add, pk_mul, n_and, n_or, n_xor, nI_leI, nI_ltI, nI_eq, n_z, uI_s, uI_n, bI_n0, bI_n1, bT, bF, if_true, if_false, not_true, not_false_eq_true, pk_div, pk_rem, Nat.reduceEqDiff, Nat.reduceLeDiff, Nat.reduceLT, Nat.reduceAdd, Nat.reduceMul, Nat.reduceSub, Nat.not_lt_zero, Nat.zero_le, reduceCtorEq, ite_self, n_rem, and_self, and_true, true_and, and_false, false_and, lj, e2, n_m1e (show eH A j < 2 ^ 31 by omega), c', n_one]
      · have c' : err < eH A j := by omega
        rw [if_neg (fun h => by have := h.2; omega), Nat.or_zero]
        simp (disch := first | assumption | omega | decide) only [x8_0, x8_1, x8_2, x8_3, x8_5, x8_6, x8_7, x8_8, x8_9, x8_10, x8_11, x8_12, x8_13, x8_14, x8_15, x8_16, x8_17, x8_18, x8_19, x8_20, x8_21, x8_22, x8_23, x8_24, x8_25, x8_26, x8_27, x8_28, ↓reduceIte, Option.toList, List.nil_append, List.cons_append, nI_add, pk_mul, n_and, n_or, n_xor, nI_leI, nI_ltI, nI_eq, n_z, uI_s, uI_n, bI_n0, bI_n1, bT, bF, if_true, if_false, not_true, not_false_eq_true, pk_div, pk_rem, Nat.reduceEqDiff, Nat.reduceLeDiff, Nat.reduceLT, Nat.reduceAdd, Nat.reduceMul, Nat.reduceSub, Nat.not_lt_zero, Nat.zero_le, reduceCtorEq, ite_self, n_rem, and_self, and_true, true_and, and_false, false_and, lj, e2, n_m1e (show eH A j < 2 ^ 31 by omega), c'])
  simp (disch := first | assumption | omega | decide) only [x8_0, x8_1, x8_2, x8_3, ↓reduceIte, Option.toList, List.nil_append, List.cons_append, nI_add, pk_mul, n_and, n_or, n_xor, nI_leI, nI_ltI, nI_eq, n_z, uI_s, uI_n, bI_n0, bI_n1, bT, bF, if_true, if_false, not_true, not_false_eq_true, pk_div, pk_rem, Nat.reduceEqDiff, Nat.reduceLeDiff, Nat.reduceLT, Nat.reduceAdd, Nat.reduceMul, Nat.reduceSub, Nat.not_lt_zero, Nat.zero_le, reduceCtorEq, ite_self, n_rem, and_self, and_true, true_and, and_false, false_and]
  refine Eq.trans hi ?_
  show Rn _ _ _ _ _ _ _ _ = _
  rw [x8_4]
  simp (disch := first | assumption | omega | decide) only [x8_5, x8_6, x8_27, x8_28, ↓reduceIte, Option.toList, List.nil_append, List.cons_append, nI_add, pk_mul, n_and, n_or, n_xor, nI_leI, nI_ltI, nI_eq, n_z, uI_s, uI_n, bI_n0, bI_n1, bT, bF, if_true, if_false, not_true, not_false_eq_true, pk_div, pk_rem, Nat.reduceEqDiff, Nat.reduceLeDiff, Nat.reduceLT, Nat.reduceAdd, Nat.reduceMul, Nat.reduceSub, Nat.not_lt_zero, Nat.zero_le, reduceCtorEq, ite_self, n_rem, and_self, and_true, true_and, and_false, false_and, Nat.le_refl]
theorem sp_isBy {I : Nat → Nat → Int32} {h err : Nat} (hh : h < 8) (he : err < 10) (h5 : 0 < A 5) (w : Wf A) (mA : AtM I 90 A) : ∃ I', (∀ c k, c ≠ 99 ∧ (c ≠ 89 ∨ (k ≠ 30 ∧ k ≠ 31)) → I' c k = I c k) ∧ ((bgP A err h ∧ ∀ Q, Rn sc (d + 3) 292 0 [some (.ref 89), some (.int (nI h)), some (.int (nI err))] [] (K0, I, J, R1 T) Q = Q (some (.int (nI 1))) (K0, I', J, R1 T)) ∨ (¬ bgP A err h ∧ ∀ Q, Rn sc (d + 3) 292 0 [some (.ref 89), some (.int (nI h)), some (.int (nI err))] [] (K0, I, J, R1 T) Q = Q (some (.int (nI 0))) (K0, I', J, R1 T))) := by
  obtain ⟨I1, f1, k1, r⟩ := sp_isSince (sc := sc) (d := d) (J := J) (T := T) hh w mA
  refine ⟨I1, f1, ?_⟩
  rcases r with ⟨o, p, r1, r2, q⟩ | ⟨o, q⟩
  · obtain ⟨b1, b2, b3⟩ := lm_b w p o
    have nw := sp_now (sc := sc) (d := d + 2) (J := J) (T := T) w p o r1 r2
    have s1 : lH A h ≤ sH A h ∧ sH A h ≤ mH A h := by unfold sH; omega
    have e1 : mH A h - sH A h = eH A h := by unfold sH eH; omega
    have e2 : sH A h - lH A h ≤ eH A h := by unfold sH eH; omega
    have le : eH A h < 1000 := by unfold eH; omega
    by_cases c : eH A h ≤ err
    · have c' : ¬ err < eH A h := by omega
      have c2' : ¬ err < sH A h - lH A h := by omega
      refine Or.inl ⟨⟨o, Or.inr c⟩, fun Q => ?_⟩
      simp (disch := first | assumption | omega | decide) only [x292_0, x292_1, x292_2, x292_3, x292_4, x292_5, x292_6, x292_7, x292_8, x292_9, x292_10, x292_11, x292_12, x292_13, x292_14, x292_15, x292_16, x292_17, x292_18, x292_19, x292_20, x292_21, ↓reduceIte, Option.toList, List.nil_append, List.cons_append, nI_add, pk_mul, n_and, n_or, n_xor, nI_leI, nI_ltI, nI_eq, n_z, uI_s, uI_n, bI_n0, bI_n1, bT, bF, if_true, if_false, not_true, not_false_eq_true, pk_div, pk_rem, Nat.reduceEqDiff, Nat.reduceLeDiff, Nat.reduceLT, Nat.reduceAdd, Nat.reduceMul, Nat.reduceSub, Nat.not_lt_zero, Nat.zero_le, reduceCtorEq, ite_self, n_rem, and_self, and_true, true_and, and_false, false_and, q, nw, r1, r2, sh_ss (show mH A h < 2 ^ 30 by omega) (show sH A h < 2 ^ 30 by omega) s1.2, sh_ss (show sH A h < 2 ^ 30 by omega) (show lH A h < 2 ^ 30 by omega) s1.1, e1, c', c2']
    · have c' : err < eH A h := by omega
      refine Or.inr ⟨fun h => by have := h.2; omega, fun Q => ?_⟩
      simp (disch := first | assumption | omega | decide) only [x292_0, x292_1, x292_2, x292_3, x292_4, x292_5, x292_6, x292_7, x292_8, x292_9, x292_10, x292_11, x292_12, x292_13, x292_14, x292_15, x292_16, x292_17, x292_18, x292_19, x292_20, x292_21, ↓reduceIte, Option.toList, List.nil_append, List.cons_append, nI_add, pk_mul, n_and, n_or, n_xor, nI_leI, nI_ltI, nI_eq, n_z, uI_s, uI_n, bI_n0, bI_n1, bT, bF, if_true, if_false, not_true, not_false_eq_true, pk_div, pk_rem, Nat.reduceEqDiff, Nat.reduceLeDiff, Nat.reduceLT, Nat.reduceAdd, Nat.reduceMul, Nat.reduceSub, Nat.not_lt_zero, Nat.zero_le, reduceCtorEq, ite_self, n_rem, and_self, and_true, true_and, and_false, false_and, q, nw, r1, r2, sh_ss (show mH A h < 2 ^ 30 by omega) (show sH A h < 2 ^ 30 by omega) s1.2, e1, c']
  · refine Or.inr ⟨fun h => o ⟨h.1, h5⟩, fun Q => ?_⟩
    simp (disch := first | assumption | omega | decide) only [x292_0, x292_1, x292_2, x292_3, x292_4, x292_5, x292_6, x292_7, x292_8, x292_9, x292_10, x292_11, x292_12, x292_13, x292_14, x292_15, x292_16, x292_17, x292_18, x292_19, x292_20, x292_21, ↓reduceIte, Option.toList, List.nil_append, List.cons_append, nI_add, pk_mul, n_and, n_or, n_xor, nI_leI, nI_ltI, nI_eq, n_z, uI_s, uI_n, bI_n0, bI_n1, bT, bF, if_true, if_false, not_true, not_false_eq_true, pk_div, pk_rem, Nat.reduceEqDiff, Nat.reduceLeDiff, Nat.reduceLT, Nat.reduceAdd, Nat.reduceMul, Nat.reduceSub, Nat.not_lt_zero, Nat.zero_le, reduceCtorEq, ite_self, n_rem, and_self, and_true, true_and, and_false, false_and, q]
theorem sp_beganBy {I : Nat → Nat → Int32} {err : Nat} (he : err < 10) (w : Wf A) (mA : AtM I 90 A) (dp : ∀ h, Decidable (bgP A err h)) : ∃ I', (∀ c k, c ≠ 99 ∧ (c ≠ 89 ∨ (k ≠ 30 ∧ k ≠ 31)) → I' c k = I c k) ∧ ∀ Q, Rn sc (d + 4) 293 0 [some (.ref 89), some (.int (nI err)), none, none] [] (K0, I, J, R1 T) Q = Q (some (.int (nI (whN (bgP A err) dp 8)))) (K0, I', J, R1 T) := by
  have w5 : A 5 ≤ 8 := w.1.2.2.2.2.2.1
  have e5 : I 90 5 = nI (A 5) := mA 5 (by decide)
  by_cases h5 : A 5 = 0
  · refine ⟨I, fun _ _ _ => rfl, fun Q => ?_⟩
    rw [wh_all (fun t ht => ⟨fun i hi => by omega, Or.inl h5⟩)]
    rw [h5] at e5
    simp (disch := first | assumption | omega | decide) only [x293_0, x293_1, x293_2, x293_3, x293_4, x293_5, x293_6, ↓reduceIte, Option.toList, List.nil_append, List.cons_append, nI_add, pk_mul, n_and, n_or, n_xor, nI_leI, nI_ltI, nI_eq, n_z, uI_s, uI_n, bI_n0, bI_n1, bT, bF, if_true, if_false, not_true, not_false_eq_true, pk_div, pk_rem, Nat.reduceEqDiff, Nat.reduceLeDiff, Nat.reduceLT, Nat.reduceAdd, Nat.reduceMul, Nat.reduceSub, Nat.not_lt_zero, Nat.zero_le, reduceCtorEq, ite_self, n_rem, and_self, and_true, true_and, and_false, false_and, e5]
  · obtain ⟨I', f', h3⟩ := iterE (fun (_ : Nat) I' => ∀ c k, c ≠ 99 ∧ (c ≠ 89 ∨ (k ≠ 30 ∧ k ≠ 31)) → I' c k = I c k) (fun j I' => fun Q => Rn sc (d + 4) 293 11 [some (.ref 89), some (.int (nI err)), some (.int (nI (whN (bgP A err) dp j))), some (.int (nI j))] [] (K0, I', J, R1 T) Q) 8 (by
      rintro j I1 hj f1
      have lj : ¬ 8 ≤ j := by omega
      obtain ⟨I2, f2, r⟩ := sp_isBy (sc := sc) (d := d) (J := J) (T := T) hj he (show 0 < A 5 by omega) w (AtM_c mA (fun k => f1 _ _ (by omega)))
      refine ⟨I2, fun c k hc => (f2 c k hc).trans (f1 c k hc), funext fun Q => ?_⟩
      show Rn _ _ _ _ _ _ _ _ = Rn _ _ _ _ _ _ _ _
      rw [x293_11, whN]
      rcases r with ⟨p, q⟩ | ⟨p, q⟩
      · rw [if_pos p]
        simp (disch := first | assumption | omega | decide) only [x293_12, x293_13, x293_14, x293_15, x293_16, x293_17, x293_18, x293_19, x293_20, x293_21, x293_22, x293_23, x293_24, x293_25, x293_26, x293_27, x293_28, ↓reduceIte, Option.toList, List.nil_append, List.cons_append, nI_add, pk_mul, n_and, n_or, n_xor, nI_leI, nI_ltI, nI_eq, n_z, uI_s, uI_n, bI_n0, bI_n1, bT, bF, if_true, if_false, not_true, not_false_eq_true, pk_div, pk_rem, Nat.reduceEqDiff, Nat.reduceLeDiff, Nat.reduceLT, Nat.reduceAdd, Nat.reduceMul, Nat.reduceSub, Nat.not_lt_zero, Nat.zero_le, reduceCtorEq, ite_self, n_rem, and_self, and_true, true_and, and_false, false_and, lj, q, n_one]
      · rw [if_neg p]
        simp (disch := first | assumption | omega | decide) only [x293_12, x293_13, x293_14, x293_15, x293_16, x293_17, x293_18, x293_19, x293_20, x293_21, x293_22, x293_23, x293_24, x293_25, x293_26, x293_27, x293_28, ↓reduceIte, Option.toList, List.nil_append, List.cons_append, nI_add, pk_mul, n_and, n_or, n_xor, nI_leI, nI_ltI, nI_eq, n_z, uI_s, uI_n, bI_n0, bI_n1, bT, bF, if_true, if_false, not_true, not_false_eq_true, pk_div, pk_rem, Nat.reduceEqDiff, Nat.reduceLeDiff, Nat.reduceLT, Nat.reduceAdd, Nat.reduceMul, Nat.reduceSub, Nat.not_lt_zero, Nat.zero_le, reduceCtorEq, ite_self, n_rem, and_self, and_true, true_and, and_false, false_and, lj, q]) I (fun _ _ _ => rfl)
    refine ⟨I', f', fun Q => ?_⟩
    have h3' := congrFun h3 Q
    simp (disch := first | assumption | omega | decide) only [x293_0, x293_1, x293_2, x293_3, x293_4, x293_5, x293_6, x293_7, x293_8, x293_9, x293_10, ↓reduceIte, Option.toList, List.nil_append, List.cons_append, nI_add, pk_mul, n_and, n_or, n_xor, nI_leI, nI_ltI, nI_eq, n_z, uI_s, uI_n, bI_n0, bI_n1, bT, bF, if_true, if_false, not_true, not_false_eq_true, pk_div, pk_rem, Nat.reduceEqDiff, Nat.reduceLeDiff, Nat.reduceLT, Nat.reduceAdd, Nat.reduceMul, Nat.reduceSub, Nat.not_lt_zero, Nat.zero_le, reduceCtorEq, ite_self, n_rem, and_self, and_true, true_and, and_false, false_and, e5, h5]
    refine Eq.trans h3' ?_
    show Rn _ _ _ _ _ _ _ _ = _
    rw [x293_11]
    simp (disch := first | assumption | omega | decide) only [x293_12, x293_13, x293_29, x293_30, ↓reduceIte, Option.toList, List.nil_append, List.cons_append, nI_add, pk_mul, n_and, n_or, n_xor, nI_leI, nI_ltI, nI_eq, n_z, uI_s, uI_n, bI_n0, bI_n1, bT, bF, if_true, if_false, not_true, not_false_eq_true, pk_div, pk_rem, Nat.reduceEqDiff, Nat.reduceLeDiff, Nat.reduceLT, Nat.reduceAdd, Nat.reduceMul, Nat.reduceSub, Nat.not_lt_zero, Nat.zero_le, reduceCtorEq, ite_self, n_rem, and_self, and_true, true_and, and_false, false_and, Nat.le_refl]
end Began
section Began2
variable {TX : (Nat → Nat → Int32) → Nat → Prop} {sc : Sc} {d : Nat}
theorem jt_began {x : Int32} : Jt TX sc (d + 5) 148 294 [some (.ref 0), some (.int x)] [some (.ref 89), some (.int x)] := by
  intro A B M w _
  have w' := w
  obtain ⟨wA, wB, wt⟩ := w
  by_cases hx : inR x 10
  · obtain ⟨err, he, rfl⟩ := hx
    have dp : ∀ h, Decidable (bgP A err h) := fun h => Classical.propDecidable _
    refine ⟨nI (whN (bgP A err) dp 8), A, B, w', Nat.le_refl _, ?_, ?_⟩
    · intro I J T cI _
      obtain ⟨I1, f1, k1, g1, q1⟩ := sp_weigh (sc := sc) (d := d + 2) (J := J) (T := T) w' cI
      have sp := sp_susp (sc := sc) (d := d + 4) (J := J) (T := T) he wA g1 dp
      refine ⟨I1, fun c k hc => f1 c k (by omega), CI_c w' cI (fun c k hc => f1 c k (by omega)), fun Q => ?_⟩
      simp (disch := first | assumption | omega | decide) only [x148_0, x148_1, x148_2, x148_3, x148_4, x148_5, x148_6, x148_7, x148_8, x148_9, x148_10, x148_11, x148_12, x148_13, x148_14, ↓reduceIte, Option.toList, List.nil_append, List.cons_append, nI_add, pk_mul, n_and, n_or, n_xor, nI_leI, nI_ltI, nI_eq, n_z, uI_s, uI_n, bI_n0, bI_n1, bT, bF, if_true, if_false, not_true, not_false_eq_true, pk_div, pk_rem, Nat.reduceEqDiff, Nat.reduceLeDiff, Nat.reduceLT, Nat.reduceAdd, Nat.reduceMul, Nat.reduceSub, Nat.not_lt_zero, Nat.zero_le, reduceCtorEq, ite_self, n_rem, and_self, and_true, true_and, and_false, false_and, sp_isWithin, ↓in_t, q1, sp]
    · intro I J T mI _
      obtain ⟨I1, f1, q1⟩ := sp_beganBy (sc := sc) (d := d) (J := J) (T := T) he wA mI.1 dp
      refine ⟨I1, J, ⟨fun c k hc => f1 c k (by omega), fun k hk => f1 _ _ (by omega)⟩, MI_c mI (fun c k hc => f1 c k (by omega)) (f1 _ _ (by omega)), fun Q => ?_⟩
      simp (disch := first | assumption | omega | decide) only [x294_0, x294_1, x294_2, x294_3, x294_4, x294_5, x294_6, x294_7, x294_8, x294_9, x294_10, ↓reduceIte, Option.toList, List.nil_append, List.cons_append, nI_add, pk_mul, n_and, n_or, n_xor, nI_leI, nI_ltI, nI_eq, n_z, uI_s, uI_n, bI_n0, bI_n1, bT, bF, if_true, if_false, not_true, not_false_eq_true, pk_div, pk_rem, Nat.reduceEqDiff, Nat.reduceLeDiff, Nat.reduceLT, Nat.reduceAdd, Nat.reduceMul, Nat.reduceSub, Nat.not_lt_zero, Nat.zero_le, reduceCtorEq, ite_self, n_rem, and_self, and_true, true_and, and_false, false_and, sp_isIn, ↓in_t, q1]
  · refine jtR w' (-1) ?_ ?_ <;> intro I J T Q hI
    · simp (disch := first | assumption | omega | decide) only [x148_0, x148_1, x148_2, x148_3, x148_4, x148_5, x148_6, x148_7, x148_8, x148_9, x148_10, x148_11, x148_12, x148_13, x148_14, ↓reduceIte, Option.toList, List.nil_append, List.cons_append, nI_add, pk_mul, n_and, n_or, n_xor, nI_leI, nI_ltI, nI_eq, n_z, uI_s, uI_n, bI_n0, bI_n1, bT, bF, if_true, if_false, not_true, not_false_eq_true, pk_div, pk_rem, Nat.reduceEqDiff, Nat.reduceLeDiff, Nat.reduceLT, Nat.reduceAdd, Nat.reduceMul, Nat.reduceSub, Nat.not_lt_zero, Nat.zero_le, reduceCtorEq, ite_self, n_rem, and_self, and_true, true_and, and_false, false_and, sp_isWithin, ↓in_f hx]
    · simp (disch := first | assumption | omega | decide) only [x294_0, x294_1, x294_2, x294_3, x294_4, x294_5, x294_6, x294_7, x294_8, x294_9, x294_10, ↓reduceIte, Option.toList, List.nil_append, List.cons_append, nI_add, pk_mul, n_and, n_or, n_xor, nI_leI, nI_ltI, nI_eq, n_z, uI_s, uI_n, bI_n0, bI_n1, bT, bF, if_true, if_false, not_true, not_false_eq_true, pk_div, pk_rem, Nat.reduceEqDiff, Nat.reduceLeDiff, Nat.reduceLT, Nat.reduceAdd, Nat.reduceMul, Nat.reduceSub, Nat.not_lt_zero, Nat.zero_le, reduceCtorEq, ite_self, n_rem, and_self, and_true, true_and, and_false, false_and, sp_isIn, ↓in_f hx]
end Began2
/-- when a house hears, if it began in s -/
def hcW (A : Nat → Nat) (nev w s : Nat) : Nat := if ds A s w < 8 then sH A s + ds A s w else nev
theorem hc_b {A : Nat → Nat} {nev w s : Nat} (wf : Wf A) (h5 : 0 < A 5) (o : okH A s) (hn : nev < 2 ^ 29) : hcW A nev w s < 2 ^ 30 := by
  obtain ⟨b1, b2, b3⟩ := lm_b wf h5 o
  unfold hcW sH
  split <;> omega
theorem hc_i {A : Nat → Nat} {w s t : Nat} (wf : Wf A) (h5 : 0 < A 5) (o : okH A s) (p : okH A t) : hcW A 1001000 w s = hcW A 1001000 w t ↔ hcW A 2000000 w s = hcW A 2000000 w t := by
  obtain ⟨b1, b2, b3⟩ := lm_b wf h5 o
  obtain ⟨c1, c2, c3⟩ := lm_b wf h5 p
  unfold hcW sH
  split <;> split <;> omega
def ctN (A : Nat → Nat) (S w s : Nat) : Nat → Nat
  | 0 => 0
  | g + 1 => ctN A S w s g + (if S / 2 ^ g % 2 = 1 ∧ hcW A 2000000 w g = hcW A 2000000 w s then 1 else 0)
theorem ct_le {A : Nat → Nat} {S w s : Nat} : ∀ n, ctN A S w s n ≤ n
  | 0 => Nat.le_refl _
  | n + 1 => by
    have := ct_le (A := A) (S := S) (w := w) (s := s) n
    rw [ctN]
    split <;> omega
def akN (A : Nat → Nat) (S w : Nat) : Nat → Nat
  | 0 => 0
  | s + 1 => if S / 2 ^ s % 2 = 1 ∧ akN A S w s < ctN A S w s 8 then ctN A S w s 8 else akN A S w s
theorem al_le {A : Nat → Nat} {S w : Nat} : ∀ n, akN A S w n ≤ 8
  | 0 => by rw [akN]; omega
  | n + 1 => by
    have h1 := al_le (A := A) (S := S) (w := w) n
    have h2 := ct_le (A := A) (S := S) (w := w) (s := n) 8
    rw [akN]
    split <;> omega
def wbF (A : Nat → Nat) (S : Nat) : Nat → Nat × Nat
  | 0 => (0, akN A S 0 8)
  | j + 1 => if akN A S (j + 1) 8 < (wbF A S j).2 then (j + 1, akN A S (j + 1) 8) else wbF A S j
theorem wb_le {A : Nat → Nat} {S : Nat} : ∀ n, (wbF A S n).2 ≤ 8
  | 0 => al_le 8
  | n + 1 => by
    rw [wbF]
    split
    · exact al_le 8
    · exact wb_le n
section Ask
variable {sc : Sc} {d : Nat} {J : Nat → Nat → Int64} {T : Option Nat} {A : Nat → Nat}
theorem sp_countH {I : Nat → Nat → Int32} {S w s : Nat} (hS : S < 256) (wf : Wf A) (h5 : 0 < A 5) (os : okH A s) (ok : ∀ g, g < 8 → S / 2 ^ g % 2 = 1 → okH A g ∧ I 83 g = shI (hcW A 1001000 w g)) : ∀ Q, Rn sc d 11 0 [some (.ref 80), some (.int (shI (hcW A 1001000 w s))), some (.int (nI S)), none, none] [] (K0, I, J, R1 T) Q = Q (some (.int (nI (ctN A S w s 8)))) (K0, I, J, R1 T) := by
  intro Q
  have hi := iter0 (fun j => Rn sc d 11 4 [some (.ref 80), some (.int (shI (hcW A 1001000 w s))), some (.int (nI S)), some (.int (nI (ctN A S w s j))), some (.int (nI j))] [] (K0, I, J, R1 T) Q) 8 (by
    intro j hj
    show Rn _ _ _ _ _ _ _ _ = Rn _ _ _ _ _ _ _ _
    have lj : ¬ 8 ≤ j := by omega
    rw [x11_4, ctN]
    by_cases c : S / 2 ^ j % 2 = 1
    · obtain ⟨oj, ej⟩ := ok j hj c
      have se := sh_eq (hc_b (nev := 1001000) (w := w) wf h5 oj (by omega)) (hc_b (nev := 1001000) (w := w) wf h5 os (by omega))
      by_cases c2 : hcW A 1001000 w j = hcW A 1001000 w s
      · rw [if_pos ⟨c, (hc_i wf h5 oj os).mp c2⟩]
        simp (disch := first | assumption | omega | decide) only [x11_0, x11_1, x11_2, x11_3, x11_5, x11_6, x11_7, x11_8, x11_9, x11_10, x11_11, x11_12, x11_13, x11_14, x11_15, x11_16, x11_17, x11_18, x11_19, x11_20, x11_21, x11_22, x11_23, x11_24, ↓reduceIte, Option.toList, List.nil_append, List.cons_append, nI_add, pk_mul, n_and, n_or, n_xor, nI_leI, nI_ltI, nI_eq, n_z, uI_s, uI_n, bI_n0, bI_n1, bT, bF, if_true, if_false, not_true, not_false_eq_true, pk_div, pk_rem, Nat.reduceEqDiff, Nat.reduceLeDiff, Nat.reduceLT, Nat.reduceAdd, Nat.reduceMul, Nat.reduceSub, Nat.not_lt_zero, Nat.zero_le, reduceCtorEq, ite_self, n_rem, and_self, and_true, true_and, and_false, false_and, lj, n_bit, c, ej, se, c2]
      · rw [if_neg (fun h => c2 ((hc_i wf h5 oj os).mpr h.2)), Nat.add_zero]
        simp (disch := first | assumption | omega | decide) only [x11_0, x11_1, x11_2, x11_3, x11_5, x11_6, x11_7, x11_8, x11_9, x11_10, x11_11, x11_12, x11_13, x11_14, x11_15, x11_16, x11_17, x11_18, x11_19, x11_20, x11_21, x11_22, x11_23, x11_24, ↓reduceIte, Option.toList, List.nil_append, List.cons_append, nI_add, pk_mul, n_and, n_or, n_xor, nI_leI, nI_ltI, nI_eq, n_z, uI_s, uI_n, bI_n0, bI_n1, bT, bF, if_true, if_false, not_true, not_false_eq_true, pk_div, pk_rem, Nat.reduceEqDiff, Nat.reduceLeDiff, Nat.reduceLT, Nat.reduceAdd, Nat.reduceMul, Nat.reduceSub, Nat.not_lt_zero, Nat.zero_le, reduceCtorEq, ite_self, n_rem, and_self, and_true, true_and, and_false, false_and, lj, n_bit, c, ej, se, c2]
    · rw [if_neg (fun h => c h.1), Nat.add_zero]
      simp (disch := first | assumption | omega | decide) only [x11_0, x11_1, x11_2, x11_3, x11_5, x11_6, x11_7, x11_8, x11_9, x11_10, x11_11, x11_12, x11_13, x11_14, x11_15, x11_16, x11_17, x11_18, x11_19, x11_20, x11_21, x11_22, x11_23, x11_24, ↓reduceIte, Option.toList, List.nil_append, List.cons_append, nI_add, pk_mul, n_and, n_or, n_xor, nI_leI, nI_ltI, nI_eq, n_z, uI_s, uI_n, bI_n0, bI_n1, bT, bF, if_true, if_false, not_true, not_false_eq_true, pk_div, pk_rem, Nat.reduceEqDiff, Nat.reduceLeDiff, Nat.reduceLT, Nat.reduceAdd, Nat.reduceMul, Nat.reduceSub, Nat.not_lt_zero, Nat.zero_le, reduceCtorEq, ite_self, n_rem, and_self, and_true, true_and, and_false, false_and, lj, n_bit, c])
  simp (disch := first | assumption | omega | decide) only [x11_0, x11_1, x11_2, x11_3, ↓reduceIte, Option.toList, List.nil_append, List.cons_append, nI_add, pk_mul, n_and, n_or, n_xor, nI_leI, nI_ltI, nI_eq, n_z, uI_s, uI_n, bI_n0, bI_n1, bT, bF, if_true, if_false, not_true, not_false_eq_true, pk_div, pk_rem, Nat.reduceEqDiff, Nat.reduceLeDiff, Nat.reduceLT, Nat.reduceAdd, Nat.reduceMul, Nat.reduceSub, Nat.not_lt_zero, Nat.zero_le, reduceCtorEq, ite_self, n_rem, and_self, and_true, true_and, and_false, false_and]
  refine Eq.trans hi ?_
  show Rn _ _ _ _ _ _ _ _ = _
  rw [x11_4]
  simp (disch := first | assumption | omega | decide) only [x11_5, x11_6, x11_23, x11_24, ↓reduceIte, Option.toList, List.nil_append, List.cons_append, nI_add, pk_mul, n_and, n_or, n_xor, nI_leI, nI_ltI, nI_eq, n_z, uI_s, uI_n, bI_n0, bI_n1, bT, bF, if_true, if_false, not_true, not_false_eq_true, pk_div, pk_rem, Nat.reduceEqDiff, Nat.reduceLeDiff, Nat.reduceLT, Nat.reduceAdd, Nat.reduceMul, Nat.reduceSub, Nat.not_lt_zero, Nat.zero_le, reduceCtorEq, ite_self, n_rem, and_self, and_true, true_and, and_false, false_and, Nat.le_refl]
theorem sp_alikeC {I : Nat → Nat → Int32} {S w : Nat} (hw : w < 8) (hS : S < 256) (wf : Wf A) (h5 : 0 < A 5) (oS : ∀ g, g < 8 → S / 2 ^ g % 2 = 1 → okH A g) (e : ∀ a h, a < 8 → h < 8 → I 73 (a * 8 + h) = dvD (ds A a h)) (g : ∀ h, h < 8 → Wgd I A h) : ∃ I', (∀ c k, c ≠ 83 → I' c k = I c k) ∧ ∀ Q, Rn sc (d + 1) 10 0 [some (.ref 80), some (.int (nI w)), some (.int (nI S)), none, none] [] (K0, I, J, R1 T) Q = Q (some (.int (nI (akN A S w 8)))) (K0, I', J, R1 T) := by
  obtain ⟨⟨I1, u1⟩, ⟨k1, f1⟩, h3⟩ := iterE (St := (Nat → Nat → Int32) × Option Value) (fun j s => (∀ x, x < j → okH A x → s.1 83 x = shI (hcW A 1001000 w x)) ∧ ∀ c k, c ≠ 83 → s.1 c k = I c k) (fun j s => fun Q => Rn sc (d + 1) 10 2 [some (.ref 80), some (.int (nI w)), some (.int (nI S)), some (.int (nI j)), s.2] [] (K0, s.1, J, R1 T) Q) 8 (by
    rintro j ⟨I2, u⟩ hj ⟨k2, f2⟩
    have k2 : ∀ x, x < j → okH A x → I2 83 x = shI (hcW A 1001000 w x) := k2
    have f2 : ∀ c k, c ≠ 83 → I2 c k = I c k := f2
    have lj : ¬ 8 ≤ j := by omega
    have ed := fun Q => sp_dist (Q := Q) (sc := sc) (d := d) (J := J) (T := T) (I := I2) hj hw (fun a b ha hb => (f2 _ _ (by omega)).trans (e a b ha hb))
    by_cases c : ds A j w < 8
    · have dt := dvD_t c
      refine ⟨(uI I2 83 j (I2 81 j + nI (ds A j w)), some (.int (nI (ds A j w)))), ⟨fun x hx ox => ?_, fun c k hc => (uI_n (by omega)).trans (f2 c k hc)⟩, funext fun Q => ?_⟩
      · show uI I2 83 j (I2 81 j + nI (ds A j w)) 83 x = _
        by_cases ex : x = j
        · subst ex
          rw [uI_s, f2 _ _ (by omega)]
          rcases g x hj with ⟨o, -, -⟩ | ⟨o, ⟨z, -, -⟩ | ⟨p, e1, -⟩⟩
          · exact absurd ox o
          · omega
          · obtain ⟨b1, b2, b3⟩ := lm_b wf h5 ox
            rw [e1, sh_an (by unfold sH; omega) (by omega)]
            unfold hcW
            rw [if_pos c]
        · rw [uI_n (by omega)]
          exact k2 x (by omega) ox
      · show Rn _ _ _ _ _ _ _ _ = Rn _ _ _ _ _ _ _ _
        rw [x10_2]
        simp (disch := first | assumption | omega | decide) only [x10_3, x10_4, x10_5, x10_6, x10_7, x10_8, x10_9, x10_10, x10_11, x10_12, x10_13, x10_14, x10_15, x10_16, x10_17, x10_18, x10_19, x10_20, x10_21, x10_22, x10_23, x10_24, x10_25, x10_26, x10_27, ↓reduceIte, Option.toList, List.nil_append, List.cons_append, nI_add, pk_mul, n_and, n_or, n_xor, nI_leI, nI_ltI, nI_eq, n_z, uI_s, uI_n, bI_n0, bI_n1, bT, bF, if_true, if_false, not_true, not_false_eq_true, pk_div, pk_rem, Nat.reduceEqDiff, Nat.reduceLeDiff, Nat.reduceLT, Nat.reduceAdd, Nat.reduceMul, Nat.reduceSub, Nat.not_lt_zero, Nat.zero_le, reduceCtorEq, ite_self, n_rem, and_self, and_true, true_and, and_false, false_and, lj, ed, dt, n_m1e (show ds A j w < 2 ^ 31 by omega)]
    · have dt := dvD_f c
      refine ⟨(uI I2 83 j (nI 1000), some (.int (-1))), ⟨fun x hx ox => ?_, fun c k hc => (uI_n (by omega)).trans (f2 c k hc)⟩, funext fun Q => ?_⟩
      · show uI I2 83 j (nI 1000) 83 x = _
        by_cases ex : x = j
        · subst ex
          rw [uI_s]
          unfold hcW
          rw [if_neg c]
          exact sh_c1
        · rw [uI_n (by omega)]
          exact k2 x (by omega) ox
      · show Rn _ _ _ _ _ _ _ _ = Rn _ _ _ _ _ _ _ _
        rw [x10_2]
        simp (disch := first | assumption | omega | decide) only [x10_3, x10_4, x10_5, x10_6, x10_7, x10_8, x10_9, x10_10, x10_11, x10_12, x10_13, x10_14, x10_15, x10_16, x10_17, x10_18, x10_19, x10_20, x10_21, x10_22, x10_23, x10_24, x10_25, x10_26, x10_27, ↓reduceIte, Option.toList, List.nil_append, List.cons_append, nI_add, pk_mul, n_and, n_or, n_xor, nI_leI, nI_ltI, nI_eq, n_z, uI_s, uI_n, bI_n0, bI_n1, bT, bF, if_true, if_false, not_true, not_false_eq_true, pk_div, pk_rem, Nat.reduceEqDiff, Nat.reduceLeDiff, Nat.reduceLT, Nat.reduceAdd, Nat.reduceMul, Nat.reduceSub, Nat.not_lt_zero, Nat.zero_le, reduceCtorEq, ite_self, n_rem, and_self, and_true, true_and, and_false, false_and, lj, ed, dt]) (I, none) ⟨fun x hx => by omega, fun _ _ _ => rfl⟩
  have k1 : ∀ x, x < 8 → okH A x → I1 83 x = shI (hcW A 1001000 w x) := k1
  refine ⟨I1, f1, fun Q => ?_⟩
  have hi := iter0 (fun j => Rn sc (d + 1) 10 32 [some (.ref 80), some (.int (nI w)), some (.int (nI S)), some (.int (nI (akN A S w j))), some (.int (nI j))] [] (K0, I1, J, R1 T) Q) 8 (by
    intro j hj
    show Rn _ _ _ _ _ _ _ _ = Rn _ _ _ _ _ _ _ _
    have lj : ¬ 8 ≤ j := by omega
    have la := al_le (A := A) (S := S) (w := w) j
    have lc := ct_le (A := A) (S := S) (w := w) (s := j) 8
    rw [x10_32, akN]
    by_cases c : S / 2 ^ j % 2 = 1
    · have oj := oS j hj c
      have ej := k1 j hj oj
      have ch := sp_countH (sc := sc) (d := d) (J := J) (T := T) (I := I1) (w := w) hS wf h5 oj (fun g hg c => ⟨oS g hg c, k1 g hg (oS g hg c)⟩)
      by_cases c2 : akN A S w j < ctN A S w j 8
      · rw [if_pos ⟨c, c2⟩]
        simp (disch := first | assumption | omega | decide) only [x10_33, x10_34, x10_35, x10_36, x10_37, x10_38, x10_39, x10_40, x10_41, x10_42, x10_43, x10_44, x10_45, x10_46, x10_47, x10_48, x10_49, x10_50, x10_51, x10_52, x10_53, ↓reduceIte, Option.toList, List.nil_append, List.cons_append, nI_add, pk_mul, n_and, n_or, n_xor, nI_leI, nI_ltI, nI_eq, n_z, uI_s, uI_n, bI_n0, bI_n1, bT, bF, if_true, if_false, not_true, not_false_eq_true, pk_div, pk_rem, Nat.reduceEqDiff, Nat.reduceLeDiff, Nat.reduceLT, Nat.reduceAdd, Nat.reduceMul, Nat.reduceSub, Nat.not_lt_zero, Nat.zero_le, reduceCtorEq, ite_self, n_rem, and_self, and_true, true_and, and_false, false_and, lj, n_bit, c, ej, ch, c2]
      · rw [if_neg (fun h => c2 h.2)]
        simp (disch := first | assumption | omega | decide) only [x10_33, x10_34, x10_35, x10_36, x10_37, x10_38, x10_39, x10_40, x10_41, x10_42, x10_43, x10_44, x10_45, x10_46, x10_47, x10_48, x10_49, x10_50, x10_51, x10_52, x10_53, ↓reduceIte, Option.toList, List.nil_append, List.cons_append, nI_add, pk_mul, n_and, n_or, n_xor, nI_leI, nI_ltI, nI_eq, n_z, uI_s, uI_n, bI_n0, bI_n1, bT, bF, if_true, if_false, not_true, not_false_eq_true, pk_div, pk_rem, Nat.reduceEqDiff, Nat.reduceLeDiff, Nat.reduceLT, Nat.reduceAdd, Nat.reduceMul, Nat.reduceSub, Nat.not_lt_zero, Nat.zero_le, reduceCtorEq, ite_self, n_rem, and_self, and_true, true_and, and_false, false_and, lj, n_bit, c, ej, ch, c2]
    · rw [if_neg (fun h => c h.1)]
      simp (disch := first | assumption | omega | decide) only [x10_33, x10_34, x10_35, x10_36, x10_37, x10_38, x10_39, x10_40, x10_41, x10_42, x10_43, x10_44, x10_45, x10_46, x10_47, x10_48, x10_49, x10_50, x10_51, x10_52, x10_53, ↓reduceIte, Option.toList, List.nil_append, List.cons_append, nI_add, pk_mul, n_and, n_or, n_xor, nI_leI, nI_ltI, nI_eq, n_z, uI_s, uI_n, bI_n0, bI_n1, bT, bF, if_true, if_false, not_true, not_false_eq_true, pk_div, pk_rem, Nat.reduceEqDiff, Nat.reduceLeDiff, Nat.reduceLT, Nat.reduceAdd, Nat.reduceMul, Nat.reduceSub, Nat.not_lt_zero, Nat.zero_le, reduceCtorEq, ite_self, n_rem, and_self, and_true, true_and, and_false, false_and, lj, n_bit, c])
  have h3' := congrFun h3 Q
  simp (disch := first | assumption | omega | decide) only [x10_0, x10_1, ↓reduceIte, Option.toList, List.nil_append, List.cons_append, nI_add, pk_mul, n_and, n_or, n_xor, nI_leI, nI_ltI, nI_eq, n_z, uI_s, uI_n, bI_n0, bI_n1, bT, bF, if_true, if_false, not_true, not_false_eq_true, pk_div, pk_rem, Nat.reduceEqDiff, Nat.reduceLeDiff, Nat.reduceLT, Nat.reduceAdd, Nat.reduceMul, Nat.reduceSub, Nat.not_lt_zero, Nat.zero_le, reduceCtorEq, ite_self, n_rem, and_self, and_true, true_and, and_false, false_and]
  refine Eq.trans h3' ?_
  show Rn _ _ _ _ _ _ _ _ = _
  rw [x10_2]
  simp (disch := first | assumption | omega | decide) only [x10_3, x10_4, x10_28, x10_29, x10_30, x10_31, ↓reduceIte, Option.toList, List.nil_append, List.cons_append, nI_add, pk_mul, n_and, n_or, n_xor, nI_leI, nI_ltI, nI_eq, n_z, uI_s, uI_n, bI_n0, bI_n1, bT, bF, if_true, if_false, not_true, not_false_eq_true, pk_div, pk_rem, Nat.reduceEqDiff, Nat.reduceLeDiff, Nat.reduceLT, Nat.reduceAdd, Nat.reduceMul, Nat.reduceSub, Nat.not_lt_zero, Nat.zero_le, reduceCtorEq, ite_self, n_rem, and_self, and_true, true_and, and_false, false_and, Nat.le_refl]
  refine Eq.trans hi ?_
  rw [x10_32]
  simp (disch := first | assumption | omega | decide) only [x10_33, x10_34, x10_54, x10_55, ↓reduceIte, Option.toList, List.nil_append, List.cons_append, nI_add, pk_mul, n_and, n_or, n_xor, nI_leI, nI_ltI, nI_eq, n_z, uI_s, uI_n, bI_n0, bI_n1, bT, bF, if_true, if_false, not_true, not_false_eq_true, pk_div, pk_rem, Nat.reduceEqDiff, Nat.reduceLeDiff, Nat.reduceLT, Nat.reduceAdd, Nat.reduceMul, Nat.reduceSub, Nat.not_lt_zero, Nat.zero_le, reduceCtorEq, ite_self, n_rem, and_self, and_true, true_and, and_false, false_and, Nat.le_refl]
theorem sp_best {I : Nat → Nat → Int32} {S : Nat} (hS : S < 256) (wf : Wf A) (h5 : 0 < A 5) (oS : ∀ g, g < 8 → S / 2 ^ g % 2 = 1 → okH A g) (e : ∀ a h, a < 8 → h < 8 → I 73 (a * 8 + h) = dvD (ds A a h)) (g : ∀ h, h < 8 → Wgd I A h) (h2 : 2 ≤ pcN S) : ∃ I', (∀ c k, c ≠ 83 → I' c k = I c k) ∧ ∀ Q, Rn sc (d + 2) 9 0 [some (.ref 80), some (.int (nI S)), none, none, none, none] [] (K0, I, J, R1 T) Q = Q (some (.int (nI (wbF A S 7).1))) (K0, I', J, R1 T) := by
  have gW : ∀ I', (∀ c k, c ≠ 83 → I' c k = I c k) → ∀ h, h < 8 → Wgd I' A h := fun I' f h hh => by
    have := g h hh
    unfold Wgd at this ⊢
    rw [f 81 h (by omega), f 82 h (by omega)]
    exact this
  obtain ⟨I1, f1, q1⟩ := sp_alikeC (sc := sc) (d := d) (J := J) (T := T) (w := 0) (by omega) hS wf h5 oS e g
  have l0 := al_le (A := A) (S := S) (w := 0) 8
  obtain ⟨⟨I', u⟩, f', h3⟩ := iterE (St := (Nat → Nat → Int32) × Option Value) (fun (_ : Nat) s => ∀ c k, c ≠ 83 → s.1 c k = I c k) (fun j s => fun Q => Rn sc (d + 2) 9 12 [some (.ref 80), some (.int (nI S)), some (.int (nI (wbF A S j).1)), some (.int (nI (wbF A S j).2)), some (.int (nI (j + 1))), s.2] [] (K0, s.1, J, R1 T) Q) 7 (by
    rintro j ⟨I2, u⟩ hj f2
    have f2 : ∀ c k, c ≠ 83 → I2 c k = I c k := f2
    have lj : ¬ 8 ≤ j + 1 := by omega
    obtain ⟨I3, f3, q3⟩ := sp_alikeC (sc := sc) (d := d) (J := J) (T := T) (w := j + 1) (by omega) hS wf h5 oS (fun a b ha hb => (f2 _ _ (by omega)).trans (e a b ha hb)) (gW I2 f2)
    have la := al_le (A := A) (S := S) (w := j + 1) 8
    have lw := wb_le (A := A) (S := S) j
    refine ⟨(I3, some (.int (nI (akN A S (j + 1) 8)))), fun c k hc => (f3 c k hc).trans (f2 c k hc), funext fun Q => ?_⟩
    show Rn _ _ _ _ _ _ _ _ = Rn _ _ _ _ _ _ _ _
    rw [x9_12, wbF]
    by_cases c : akN A S (j + 1) 8 < (wbF A S j).2
    · have c' : ¬ (wbF A S j).2 ≤ akN A S (j + 1) 8 := by omega
      rw [if_pos c]
      simp (disch := first | assumption | omega | decide) only [x9_13, x9_14, x9_15, x9_16, x9_17, x9_18, x9_19, x9_20, x9_21, x9_22, x9_23, x9_24, x9_25, x9_26, x9_27, x9_28, ↓reduceIte, Option.toList, List.nil_append, List.cons_append, nI_add, pk_mul, n_and, n_or, n_xor, nI_leI, nI_ltI, nI_eq, n_z, uI_s, uI_n, bI_n0, bI_n1, bT, bF, if_true, if_false, not_true, not_false_eq_true, pk_div, pk_rem, Nat.reduceEqDiff, Nat.reduceLeDiff, Nat.reduceLT, Nat.reduceAdd, Nat.reduceMul, Nat.reduceSub, Nat.not_lt_zero, Nat.zero_le, reduceCtorEq, ite_self, n_rem, and_self, and_true, true_and, and_false, false_and, lj, q3, c']
    · have c' : (wbF A S j).2 ≤ akN A S (j + 1) 8 := by omega
      rw [if_neg c]
      simp (disch := first | assumption | omega | decide) only [x9_13, x9_14, x9_15, x9_16, x9_17, x9_18, x9_19, x9_20, x9_21, x9_22, x9_23, x9_24, x9_25, x9_26, x9_27, x9_28, ↓reduceIte, Option.toList, List.nil_append, List.cons_append, nI_add, pk_mul, n_and, n_or, n_xor, nI_leI, nI_ltI, nI_eq, n_z, uI_s, uI_n, bI_n0, bI_n1, bT, bF, if_true, if_false, not_true, not_false_eq_true, pk_div, pk_rem, Nat.reduceEqDiff, Nat.reduceLeDiff, Nat.reduceLT, Nat.reduceAdd, Nat.reduceMul, Nat.reduceSub, Nat.not_lt_zero, Nat.zero_le, reduceCtorEq, ite_self, n_rem, and_self, and_true, true_and, and_false, false_and, lj, q3, c']) (I1, some (.int (nI (akN A S 0 8)))) f1
  refine ⟨I', f', fun Q => ?_⟩
  have h3' := congrFun h3 Q
  have c2 : pcN S ≤ 8 := pc_8 _ hS
  have c0 : ¬ 9 ≤ akN A S 0 8 := by omega
  have bc := fun Q => sp_bitCount (Q := Q) (sc := sc) (d := d + 1) (I := I) (J := J) (T := T) hS
  simp (disch := first | assumption | omega | decide) only [x9_0, x9_1, x9_2, x9_3, x9_4, x9_5, x9_6, x9_7, x9_8, x9_9, x9_10, x9_11, ↓reduceIte, Option.toList, List.nil_append, List.cons_append, nI_add, pk_mul, n_and, n_or, n_xor, nI_leI, nI_ltI, nI_eq, n_z, uI_s, uI_n, bI_n0, bI_n1, bT, bF, if_true, if_false, not_true, not_false_eq_true, pk_div, pk_rem, Nat.reduceEqDiff, Nat.reduceLeDiff, Nat.reduceLT, Nat.reduceAdd, Nat.reduceMul, Nat.reduceSub, Nat.not_lt_zero, Nat.zero_le, reduceCtorEq, ite_self, n_rem, and_self, and_true, true_and, and_false, false_and, bc, h2]
  rw [x9_12]
  simp (disch := first | assumption | omega | decide) only [x9_13, x9_14, x9_15, x9_16, x9_17, x9_18, x9_19, x9_20, x9_21, x9_22, x9_23, x9_24, x9_25, x9_26, x9_27, x9_28, ↓reduceIte, Option.toList, List.nil_append, List.cons_append, nI_add, pk_mul, n_and, n_or, n_xor, nI_leI, nI_ltI, nI_eq, n_z, uI_s, uI_n, bI_n0, bI_n1, bT, bF, if_true, if_false, not_true, not_false_eq_true, pk_div, pk_rem, Nat.reduceEqDiff, Nat.reduceLeDiff, Nat.reduceLT, Nat.reduceAdd, Nat.reduceMul, Nat.reduceSub, Nat.not_lt_zero, Nat.zero_le, reduceCtorEq, ite_self, n_rem, and_self, and_true, true_and, and_false, false_and, q1, c0]
  refine Eq.trans h3' ?_
  show Rn _ _ _ _ _ _ _ _ = _
  rw [x9_12]
  simp (disch := first | assumption | omega | decide) only [x9_13, x9_14, x9_29, x9_30, ↓reduceIte, Option.toList, List.nil_append, List.cons_append, nI_add, pk_mul, n_and, n_or, n_xor, nI_leI, nI_ltI, nI_eq, n_z, uI_s, uI_n, bI_n0, bI_n1, bT, bF, if_true, if_false, not_true, not_false_eq_true, pk_div, pk_rem, Nat.reduceEqDiff, Nat.reduceLeDiff, Nat.reduceLT, Nat.reduceAdd, Nat.reduceMul, Nat.reduceSub, Nat.not_lt_zero, Nat.zero_le, reduceCtorEq, ite_self, n_rem, and_self, and_true, true_and, and_false, false_and, Nat.le_refl]
theorem sp_alikeM {I : Nat → Nat → Int32} {S w : Nat} (hw : w < 8) (hS : S < 256) (wf : Wf A) (h5 : 0 < A 5) (oS : ∀ g, g < 8 → S / 2 ^ g % 2 = 1 → okH A g) (mA : AtM I 90 A) : ∃ I', (∀ c k, c ≠ 99 ∧ c ≠ 103 ∧ (c ≠ 89 ∨ (k ≠ 30 ∧ k ≠ 31)) → I' c k = I c k) ∧ ∀ Q, Rn sc (d + 3) 295 0 [some (.ref 89), some (.int (nI w)), some (.int (nI S)), none, none, none, none] [] (K0, I, J, R1 T) Q = Q (some (.int (nI (akN A S w 8)))) (K0, I', J, R1 T) := by
  obtain ⟨I1, ⟨k1, f1⟩, h3⟩ := iterE (fun j I' => (∀ x, x < j → okH A x → I' 103 x = shI (hcW A 2000000 w x)) ∧ ∀ c k, c ≠ 99 ∧ c ≠ 103 ∧ (c ≠ 89 ∨ (k ≠ 30 ∧ k ≠ 31)) → I' c k = I c k) (fun j I' => fun Q => Rn sc (d + 3) 295 2 [some (.ref 89), some (.int (nI w)), some (.int (nI S)), some (.int (nI j)), none, none, none] [] (K0, I', J, R1 T) Q) 8 (by
    rintro j I2 hj ⟨k2, f2⟩
    have lj : ¬ 8 ≤ j := by omega
    obtain ⟨I3, f3, k3, r⟩ := sp_isSince (sc := sc) (d := d) (J := J) (T := T) hj wf (AtM_c mA (fun k => f2 _ _ (by omega)))
    have kd := k3 w hw
    have kk : ∀ v, (∀ x, x < j + 1 → okH A x → (x = j → v = shI (hcW A 2000000 w j)) → uI I3 103 j v 103 x = shI (hcW A 2000000 w x)) := by
      intro v x hx ox hv
      by_cases ex : x = j
      · subst ex
        rw [uI_s]
        exact hv rfl
      · rw [uI_n (by omega), f3 _ _ (by omega)]
        exact k2 x (by omega) ox
    rcases r with ⟨o, p, r1, r2, q⟩ | ⟨o, q⟩
    · have nw := sp_now (sc := sc) (d := d + 2) (J := J) (T := T) wf p o r1 r2
      obtain ⟨b1, b2, b3⟩ := lm_b wf h5 o
      have ls : sH A j < 2 ^ 29 := by unfold sH; omega
      by_cases c : ds A j w < 8
      · rw [dvD_t c] at kd
        have ea : shI (sH A j) + nI (ds A j w) = shI (hcW A 2000000 w j) := by
          rw [sh_an (by omega) (by omega)]
          unfold hcW
          rw [if_pos c]
        refine ⟨uI I3 103 j (shI (hcW A 2000000 w j)), ⟨fun x hx ox => kk _ x hx ox (fun _ => rfl), fun c k hc => (uI_n (by omega)).trans ((f3 c k (by omega)).trans (f2 c k hc))⟩, funext fun Q => ?_⟩
        show Rn _ _ _ _ _ _ _ _ = Rn _ _ _ _ _ _ _ _
        rw [x295_2]
        simp (disch := first | assumption | omega | decide) only [x295_3, x295_4, x295_5, x295_6, x295_7, x295_8, x295_9, x295_10, x295_11, x295_12, x295_13, x295_14, x295_15, x295_16, x295_17, x295_18, x295_19, x295_20, x295_21, x295_22, x295_23, x295_24, x295_25, x295_26, x295_27, x295_28, x295_29, ↓reduceIte, Option.toList, List.nil_append, List.cons_append, nI_add, pk_mul, n_and, n_or, n_xor, nI_leI, nI_ltI, nI_eq, n_z, uI_s, uI_n, bI_n0, bI_n1, bT, bF, if_true, if_false, not_true, not_false_eq_true, pk_div, pk_rem, Nat.reduceEqDiff, Nat.reduceLeDiff, Nat.reduceLT, Nat.reduceAdd, Nat.reduceMul, Nat.reduceSub, Nat.not_lt_zero, Nat.zero_le, reduceCtorEq, ite_self, n_rem, and_self, and_true, true_and, and_false, false_and, lj, q, kd, n_m1e (show ds A j w < 2 ^ 31 by omega), nw, ea]
      · rw [dvD_f c] at kd
        have ea : nI 1000000 = shI (hcW A 2000000 w j) := by
          unfold hcW
          rw [if_neg c]
          exact sh_c3
        refine ⟨uI I3 103 j (nI 1000000), ⟨fun x hx ox => kk _ x hx ox (fun _ => ea), fun c k hc => (uI_n (by omega)).trans ((f3 c k (by omega)).trans (f2 c k hc))⟩, funext fun Q => ?_⟩
        show Rn _ _ _ _ _ _ _ _ = Rn _ _ _ _ _ _ _ _
        rw [x295_2]
        simp (disch := first | assumption | omega | decide) only [x295_3, x295_4, x295_5, x295_6, x295_7, x295_8, x295_9, x295_10, x295_11, x295_12, x295_13, x295_14, x295_15, x295_16, x295_17, x295_18, x295_19, x295_20, x295_21, x295_22, x295_23, x295_24, x295_25, x295_26, x295_27, x295_28, x295_29, ↓reduceIte, Option.toList, List.nil_append, List.cons_append, nI_add, pk_mul, n_and, n_or, n_xor, nI_leI, nI_ltI, nI_eq, n_z, uI_s, uI_n, bI_n0, bI_n1, bT, bF, if_true, if_false, not_true, not_false_eq_true, pk_div, pk_rem, Nat.reduceEqDiff, Nat.reduceLeDiff, Nat.reduceLT, Nat.reduceAdd, Nat.reduceMul, Nat.reduceSub, Nat.not_lt_zero, Nat.zero_le, reduceCtorEq, ite_self, n_rem, and_self, and_true, true_and, and_false, false_and, lj, q, kd]
    · refine ⟨uI I3 103 j (nI 1000000), ⟨fun x hx ox => kk _ x hx ox (fun ex => by subst ex; exact absurd ⟨ox, h5⟩ o), fun c k hc => (uI_n (by omega)).trans ((f3 c k (by omega)).trans (f2 c k hc))⟩, funext fun Q => ?_⟩
      show Rn _ _ _ _ _ _ _ _ = Rn _ _ _ _ _ _ _ _
      rw [x295_2]
      simp (disch := first | assumption | omega | decide) only [x295_3, x295_4, x295_5, x295_6, x295_7, x295_8, x295_9, x295_10, x295_11, x295_12, x295_13, x295_14, x295_15, x295_16, x295_17, x295_18, x295_19, x295_20, x295_21, x295_22, x295_23, x295_24, x295_25, x295_26, x295_27, x295_28, x295_29, ↓reduceIte, Option.toList, List.nil_append, List.cons_append, nI_add, pk_mul, n_and, n_or, n_xor, nI_leI, nI_ltI, nI_eq, n_z, uI_s, uI_n, bI_n0, bI_n1, bT, bF, if_true, if_false, not_true, not_false_eq_true, pk_div, pk_rem, Nat.reduceEqDiff, Nat.reduceLeDiff, Nat.reduceLT, Nat.reduceAdd, Nat.reduceMul, Nat.reduceSub, Nat.not_lt_zero, Nat.zero_le, reduceCtorEq, ite_self, n_rem, and_self, and_true, true_and, and_false, false_and, lj, q]) I ⟨fun x hx => by omega, fun _ _ _ => rfl⟩
  refine ⟨I1, f1, fun Q => ?_⟩
  obtain ⟨⟨u5, u6⟩, -, h4⟩ := iterE (St := Option Value × Option Value) (fun (_ : Nat) _ => True) (fun j u => Rn sc (d + 3) 295 34 [some (.ref 89), some (.int (nI w)), some (.int (nI S)), some (.int (nI (akN A S w j))), some (.int (nI j)), u.1, u.2] [] (K0, I1, J, R1 T) Q) 8 (by
    rintro j ⟨u5, u6⟩ hj -
    have lj : ¬ 8 ≤ j := by omega
    have la := al_le (A := A) (S := S) (w := w) j
    have lc := ct_le (A := A) (S := S) (w := w) (s := j) 8
    by_cases c : S / 2 ^ j % 2 = 1
    · have oj := oS j hj c
      have ej := k1 j hj oj
      have hi := iter0 (fun g => Rn sc (d + 3) 295 41 [some (.ref 89), some (.int (nI w)), some (.int (nI S)), some (.int (nI (akN A S w j))), some (.int (nI j)), some (.int (nI (ctN A S w j g))), some (.int (nI g))] [] (K0, I1, J, R1 T) Q) 8 (by
        intro g hg
        show Rn _ _ _ _ _ _ _ _ = Rn _ _ _ _ _ _ _ _
        have lg : ¬ 8 ≤ g := by omega
        rw [x295_41, ctN]
        by_cases c2 : S / 2 ^ g % 2 = 1
        · have og := oS g hg c2
          have eg := k1 g hg og
          have se := sh_eq (hc_b (nev := 2000000) (w := w) wf h5 og (by omega)) (hc_b (nev := 2000000) (w := w) wf h5 oj (by omega))
          by_cases c3 : hcW A 2000000 w g = hcW A 2000000 w j
          · rw [if_pos ⟨c2, c3⟩]
            simp (disch := first | assumption | omega | decide) only [x295_42, x295_43, x295_44, x295_45, x295_46, x295_47, x295_48, x295_49, x295_50, x295_51, x295_52, x295_53, x295_54, x295_55, x295_56, x295_57, x295_58, x295_59, x295_60, x295_61, x295_62, x295_63, x295_64, x295_65, x295_66, x295_67, x295_68, ↓reduceIte, Option.toList, List.nil_append, List.cons_append, nI_add, pk_mul, n_and, n_or, n_xor, nI_leI, nI_ltI, nI_eq, n_z, uI_s, uI_n, bI_n0, bI_n1, bT, bF, if_true, if_false, not_true, not_false_eq_true, pk_div, pk_rem, Nat.reduceEqDiff, Nat.reduceLeDiff, Nat.reduceLT, Nat.reduceAdd, Nat.reduceMul, Nat.reduceSub, Nat.not_lt_zero, Nat.zero_le, reduceCtorEq, ite_self, n_rem, and_self, and_true, true_and, and_false, false_and, lg, sp_has, c, c2, eg, ej, se, c3]
          · rw [if_neg (fun h => c3 h.2)]
            simp (disch := first | assumption | omega | decide) only [x295_42, x295_43, x295_44, x295_45, x295_46, x295_47, x295_48, x295_49, x295_50, x295_51, x295_52, x295_53, x295_54, x295_55, x295_56, x295_57, x295_58, x295_59, x295_60, x295_61, x295_62, x295_63, x295_64, x295_65, x295_66, x295_67, x295_68, ↓reduceIte, Option.toList, List.nil_append, List.cons_append, nI_add, pk_mul, n_and, n_or, n_xor, nI_leI, nI_ltI, nI_eq, n_z, uI_s, uI_n, bI_n0, bI_n1, bT, bF, if_true, if_false, not_true, not_false_eq_true, pk_div, pk_rem, Nat.reduceEqDiff, Nat.reduceLeDiff, Nat.reduceLT, Nat.reduceAdd, Nat.reduceMul, Nat.reduceSub, Nat.not_lt_zero, Nat.zero_le, reduceCtorEq, ite_self, n_rem, and_self, and_true, true_and, and_false, false_and, lg, sp_has, c, c2, eg, ej, se, c3]
        · rw [if_neg (fun h => c2 h.1)]
          simp (disch := first | assumption | omega | decide) only [x295_42, x295_43, x295_44, x295_45, x295_46, x295_47, x295_48, x295_49, x295_50, x295_51, x295_52, x295_53, x295_54, x295_55, x295_56, x295_57, x295_58, x295_59, x295_60, x295_61, x295_62, x295_63, x295_64, x295_65, x295_66, x295_67, x295_68, ↓reduceIte, Option.toList, List.nil_append, List.cons_append, nI_add, pk_mul, n_and, n_or, n_xor, nI_leI, nI_ltI, nI_eq, n_z, uI_s, uI_n, bI_n0, bI_n1, bT, bF, if_true, if_false, not_true, not_false_eq_true, pk_div, pk_rem, Nat.reduceEqDiff, Nat.reduceLeDiff, Nat.reduceLT, Nat.reduceAdd, Nat.reduceMul, Nat.reduceSub, Nat.not_lt_zero, Nat.zero_le, reduceCtorEq, ite_self, n_rem, and_self, and_true, true_and, and_false, false_and, lg, sp_has, c, c2])
      refine ⟨(some (.int (nI (ctN A S w j 8))), some (.int (nI 8))), trivial, ?_⟩
      show Rn _ _ _ _ _ _ _ _ = Rn _ _ _ _ _ _ _ _
      rw [x295_34]
      simp (disch := first | assumption | omega | decide) only [x295_35, x295_36, x295_37, x295_38, x295_39, x295_40, ↓reduceIte, Option.toList, List.nil_append, List.cons_append, nI_add, pk_mul, n_and, n_or, n_xor, nI_leI, nI_ltI, nI_eq, n_z, uI_s, uI_n, bI_n0, bI_n1, bT, bF, if_true, if_false, not_true, not_false_eq_true, pk_div, pk_rem, Nat.reduceEqDiff, Nat.reduceLeDiff, Nat.reduceLT, Nat.reduceAdd, Nat.reduceMul, Nat.reduceSub, Nat.not_lt_zero, Nat.zero_le, reduceCtorEq, ite_self, n_rem, and_self, and_true, true_and, and_false, false_and, lj]
      refine Eq.trans hi ?_
      rw [x295_41, akN]
      by_cases c2 : akN A S w j < ctN A S w j 8
      · have c2' : ¬ ctN A S w j 8 ≤ akN A S w j := by omega
        rw [if_pos ⟨c, c2⟩]
        simp (disch := first | assumption | omega | decide) only [x295_42, x295_43, x295_69, x295_70, x295_71, x295_72, x295_73, x295_74, x295_75, x295_76, x295_77, ↓reduceIte, Option.toList, List.nil_append, List.cons_append, nI_add, pk_mul, n_and, n_or, n_xor, nI_leI, nI_ltI, nI_eq, n_z, uI_s, uI_n, bI_n0, bI_n1, bT, bF, if_true, if_false, not_true, not_false_eq_true, pk_div, pk_rem, Nat.reduceEqDiff, Nat.reduceLeDiff, Nat.reduceLT, Nat.reduceAdd, Nat.reduceMul, Nat.reduceSub, Nat.not_lt_zero, Nat.zero_le, reduceCtorEq, ite_self, n_rem, and_self, and_true, true_and, and_false, false_and, Nat.le_refl, c2']
      · have c2' : ctN A S w j 8 ≤ akN A S w j := by omega
        rw [if_neg (fun h => c2 h.2)]
        simp (disch := first | assumption | omega | decide) only [x295_42, x295_43, x295_69, x295_70, x295_71, x295_72, x295_73, x295_74, x295_75, x295_76, x295_77, ↓reduceIte, Option.toList, List.nil_append, List.cons_append, nI_add, pk_mul, n_and, n_or, n_xor, nI_leI, nI_ltI, nI_eq, n_z, uI_s, uI_n, bI_n0, bI_n1, bT, bF, if_true, if_false, not_true, not_false_eq_true, pk_div, pk_rem, Nat.reduceEqDiff, Nat.reduceLeDiff, Nat.reduceLT, Nat.reduceAdd, Nat.reduceMul, Nat.reduceSub, Nat.not_lt_zero, Nat.zero_le, reduceCtorEq, ite_self, n_rem, and_self, and_true, true_and, and_false, false_and, Nat.le_refl, c2']
    · have hi := iter0 (fun g => Rn sc (d + 3) 295 41 [some (.ref 89), some (.int (nI w)), some (.int (nI S)), some (.int (nI (akN A S w j))), some (.int (nI j)), some (.int (nI 0)), some (.int (nI g))] [] (K0, I1, J, R1 T) Q) 8 (by
        intro g hg
        show Rn _ _ _ _ _ _ _ _ = Rn _ _ _ _ _ _ _ _
        have lg : ¬ 8 ≤ g := by omega
        rw [x295_41]
        simp (disch := first | assumption | omega | decide) only [x295_42, x295_43, x295_44, x295_45, x295_46, x295_47, x295_48, x295_49, x295_50, x295_51, x295_52, x295_53, x295_54, x295_55, x295_56, x295_57, x295_58, x295_59, x295_60, x295_61, x295_62, x295_63, x295_64, x295_65, x295_66, x295_67, x295_68, ↓reduceIte, Option.toList, List.nil_append, List.cons_append, nI_add, pk_mul, n_and, n_or, n_xor, nI_leI, nI_ltI, nI_eq, n_z, uI_s, uI_n, bI_n0, bI_n1, bT, bF, if_true, if_false, not_true, not_false_eq_true, pk_div, pk_rem, Nat.reduceEqDiff, Nat.reduceLeDiff, Nat.reduceLT, Nat.reduceAdd, Nat.reduceMul, Nat.reduceSub, Nat.not_lt_zero, Nat.zero_le, reduceCtorEq, ite_self, n_rem, and_self, and_true, true_and, and_false, false_and, lg, sp_has, c])
      refine ⟨(some (.int (nI 0)), some (.int (nI 8))), trivial, ?_⟩
      show Rn _ _ _ _ _ _ _ _ = Rn _ _ _ _ _ _ _ _
      rw [x295_34]
      simp (disch := first | assumption | omega | decide) only [x295_35, x295_36, x295_37, x295_38, x295_39, x295_40, ↓reduceIte, Option.toList, List.nil_append, List.cons_append, nI_add, pk_mul, n_and, n_or, n_xor, nI_leI, nI_ltI, nI_eq, n_z, uI_s, uI_n, bI_n0, bI_n1, bT, bF, if_true, if_false, not_true, not_false_eq_true, pk_div, pk_rem, Nat.reduceEqDiff, Nat.reduceLeDiff, Nat.reduceLT, Nat.reduceAdd, Nat.reduceMul, Nat.reduceSub, Nat.not_lt_zero, Nat.zero_le, reduceCtorEq, ite_self, n_rem, and_self, and_true, true_and, and_false, false_and, lj]
      refine Eq.trans hi ?_
      rw [x295_41, akN, if_neg (fun h => c h.1)]
      simp (disch := first | assumption | omega | decide) only [x295_42, x295_43, x295_69, x295_70, x295_71, x295_72, x295_73, x295_74, x295_75, x295_76, x295_77, ↓reduceIte, Option.toList, List.nil_append, List.cons_append, nI_add, pk_mul, n_and, n_or, n_xor, nI_leI, nI_ltI, nI_eq, n_z, uI_s, uI_n, bI_n0, bI_n1, bT, bF, if_true, if_false, not_true, not_false_eq_true, pk_div, pk_rem, Nat.reduceEqDiff, Nat.reduceLeDiff, Nat.reduceLT, Nat.reduceAdd, Nat.reduceMul, Nat.reduceSub, Nat.not_lt_zero, Nat.zero_le, reduceCtorEq, ite_self, n_rem, and_self, and_true, true_and, and_false, false_and, Nat.le_refl]) (none, none) trivial
  have h3' := congrFun h3 Q
  simp (disch := first | assumption | omega | decide) only [x295_0, x295_1, ↓reduceIte, Option.toList, List.nil_append, List.cons_append, nI_add, pk_mul, n_and, n_or, n_xor, nI_leI, nI_ltI, nI_eq, n_z, uI_s, uI_n, bI_n0, bI_n1, bT, bF, if_true, if_false, not_true, not_false_eq_true, pk_div, pk_rem, Nat.reduceEqDiff, Nat.reduceLeDiff, Nat.reduceLT, Nat.reduceAdd, Nat.reduceMul, Nat.reduceSub, Nat.not_lt_zero, Nat.zero_le, reduceCtorEq, ite_self, n_rem, and_self, and_true, true_and, and_false, false_and]
  refine Eq.trans h3' ?_
  show Rn _ _ _ _ _ _ _ _ = _
  rw [x295_2]
  simp (disch := first | assumption | omega | decide) only [x295_3, x295_4, x295_30, x295_31, x295_32, x295_33, ↓reduceIte, Option.toList, List.nil_append, List.cons_append, nI_add, pk_mul, n_and, n_or, n_xor, nI_leI, nI_ltI, nI_eq, n_z, uI_s, uI_n, bI_n0, bI_n1, bT, bF, if_true, if_false, not_true, not_false_eq_true, pk_div, pk_rem, Nat.reduceEqDiff, Nat.reduceLeDiff, Nat.reduceLT, Nat.reduceAdd, Nat.reduceMul, Nat.reduceSub, Nat.not_lt_zero, Nat.zero_le, reduceCtorEq, ite_self, n_rem, and_self, and_true, true_and, and_false, false_and, Nat.le_refl]
  refine Eq.trans h4 ?_
  show Rn _ _ _ _ _ _ _ _ = _
  rw [x295_34]
  simp (disch := first | assumption | omega | decide) only [x295_35, x295_36, x295_78, x295_79, ↓reduceIte, Option.toList, List.nil_append, List.cons_append, nI_add, pk_mul, n_and, n_or, n_xor, nI_leI, nI_ltI, nI_eq, n_z, uI_s, uI_n, bI_n0, bI_n1, bT, bF, if_true, if_false, not_true, not_false_eq_true, pk_div, pk_rem, Nat.reduceEqDiff, Nat.reduceLeDiff, Nat.reduceLT, Nat.reduceAdd, Nat.reduceMul, Nat.reduceSub, Nat.not_lt_zero, Nat.zero_le, reduceCtorEq, ite_self, n_rem, and_self, and_true, true_and, and_false, false_and, Nat.le_refl]
end Ask
section Ask2
variable {TX : (Nat → Nat → Int32) → Nat → Prop} {sc : Sc} {d : Nat}
theorem jt_ask {x : Int32} : Jt TX sc (d + 5) 150 296 [some (.ref 0), some (.int x)] [some (.ref 89), some (.int x), none, none, none, none, none] := by
  intro A B M w _
  have w' := w
  obtain ⟨wA, wB, wt⟩ := w
  have w5 : A 5 ≤ 8 := wA.1.2.2.2.2.2.1
  by_cases hx : inR x 10
  · obtain ⟨err, he, rfl⟩ := hx
    by_cases h5 : A 5 = 0
    · refine jtR w' (-1) ?_ ?_ <;> intro I J T Q hI
      · obtain ⟨n1, n2, n3, n4, n5, n6⟩ := hI.2.2.2.2.1
        rw [h5] at n1
        simp (disch := first | assumption | omega | decide) only [x150_0, x150_1, x150_2, x150_3, x150_4, x150_5, x150_6, x150_7, x150_8, x150_9, x150_10, x150_11, x150_12, x150_13, x150_14, x150_15, x150_16, x150_17, x150_18, x150_19, x150_20, x150_21, ↓reduceIte, Option.toList, List.nil_append, List.cons_append, nI_add, pk_mul, n_and, n_or, n_xor, nI_leI, nI_ltI, nI_eq, n_z, uI_s, uI_n, bI_n0, bI_n1, bT, bF, if_true, if_false, not_true, not_false_eq_true, pk_div, pk_rem, Nat.reduceEqDiff, Nat.reduceLeDiff, Nat.reduceLT, Nat.reduceAdd, Nat.reduceMul, Nat.reduceSub, Nat.not_lt_zero, Nat.zero_le, reduceCtorEq, ite_self, n_rem, and_self, and_true, true_and, and_false, false_and, sp_isWithin, ↓in_t, n1]
      · have e5 : I 90 5 = nI (A 5) := hI.1 5 (by decide)
        rw [h5] at e5
        simp (disch := first | assumption | omega | decide) only [x296_0, x296_1, x296_2, x296_3, x296_4, x296_5, x296_6, x296_7, x296_8, x296_9, x296_10, x296_11, x296_12, x296_13, x296_14, x296_15, x296_16, x296_17, ↓reduceIte, Option.toList, List.nil_append, List.cons_append, nI_add, pk_mul, n_and, n_or, n_xor, nI_leI, nI_ltI, nI_eq, n_z, uI_s, uI_n, bI_n0, bI_n1, bT, bF, if_true, if_false, not_true, not_false_eq_true, pk_div, pk_rem, Nat.reduceEqDiff, Nat.reduceLeDiff, Nat.reduceLT, Nat.reduceAdd, Nat.reduceMul, Nat.reduceSub, Nat.not_lt_zero, Nat.zero_le, reduceCtorEq, ite_self, n_rem, and_self, and_true, true_and, and_false, false_and, sp_isIn, ↓in_t, e5]
    · have h5' : 0 < A 5 := by omega
      have dp : ∀ h, Decidable (bgP A err h) := fun h => Classical.propDecidable _
      obtain ⟨S, eS⟩ : ∃ S, S = whN (bgP A err) dp 8 := ⟨_, rfl⟩
      have hS : S < 256 := by rw [eS]; exact wh_lt 8 (by omega)
      have oS : ∀ g, g < 8 → S / 2 ^ g % 2 = 1 → okH A g := fun g hg c => by
        rw [eS] at c
        exact ((wh_b 8).mp (tb_iff.mp c)).2.1
      have l8 := pc_8 _ hS
      by_cases h2 : 2 ≤ pcN S
      · refine ⟨nI (wbF A S 7).1, A, B, w', Nat.le_refl _, ?_, ?_⟩
        · intro I J T cI _
          obtain ⟨n1, n2, n3, n4, n5, n6⟩ := cI.2.2.2.2.1
          obtain ⟨I1, f1, k1, g1, q1⟩ := sp_weigh (sc := sc) (d := d + 2) (J := J) (T := T) w' cI
          have sp := sp_susp (sc := sc) (d := d + 4) (J := J) (T := T) he wA g1 dp
          rw [← eS] at sp
          obtain ⟨I2, f2, q2⟩ := sp_best (sc := sc) (d := d + 2) (J := J) (T := T) hS wA h5' oS k1 g1 h2
          refine ⟨I2, fun c k hc => (f2 c k (by omega)).trans (f1 c k (by omega)), CI_c w' cI (fun c k hc => (f2 c k (by omega)).trans (f1 c k (by omega))), fun Q => ?_⟩
          simp (disch := first | assumption | omega | decide) only [x150_0, x150_1, x150_2, x150_3, x150_4, x150_5, x150_6, x150_7, x150_8, x150_9, x150_10, x150_11, x150_12, x150_13, x150_14, x150_15, x150_16, x150_17, x150_18, x150_19, x150_20, x150_21, ↓reduceIte, Option.toList, List.nil_append, List.cons_append, nI_add, pk_mul, n_and, n_or, n_xor, nI_leI, nI_ltI, nI_eq, n_z, uI_s, uI_n, bI_n0, bI_n1, bT, bF, if_true, if_false, not_true, not_false_eq_true, pk_div, pk_rem, Nat.reduceEqDiff, Nat.reduceLeDiff, Nat.reduceLT, Nat.reduceAdd, Nat.reduceMul, Nat.reduceSub, Nat.not_lt_zero, Nat.zero_le, reduceCtorEq, ite_self, n_rem, and_self, and_true, true_and, and_false, false_and, sp_isWithin, ↓in_t, n1, h5, q1, sp, q2]
        · intro I J T mI _
          have e5 : I 90 5 = nI (A 5) := mI.1 5 (by decide)
          obtain ⟨I1, f1, q1⟩ := sp_beganBy (sc := sc) (d := d) (J := J) (T := T) he wA mI.1 dp
          obtain ⟨I2, f2, q2⟩ := sp_beganBy (sc := sc) (d := d) (J := J) (T := T) he wA (AtM_c mI.1 (fun k => f1 _ _ (by omega))) dp
          rw [← eS] at q1 q2
          have g2 : ∀ c k, c ≠ 99 ∧ c ≠ 103 ∧ (c ≠ 89 ∨ (k ≠ 30 ∧ k ≠ 31)) → I2 c k = I c k := fun c k hc => (f2 c k (by omega)).trans (f1 c k (by omega))
          obtain ⟨I3, f3, q3⟩ := sp_alikeM (sc := sc) (d := d + 1) (J := J) (T := T) (w := 0) (by omega) hS wA h5' oS (AtM_c mI.1 (fun k => g2 _ _ (by omega)))
          have l0 := al_le (A := A) (S := S) (w := 0) 8
          obtain ⟨⟨I', u⟩, f', h3⟩ := iterE (St := (Nat → Nat → Int32) × Option Value) (fun (_ : Nat) s => ∀ c k, c ≠ 99 ∧ c ≠ 103 ∧ (c ≠ 89 ∨ (k ≠ 30 ∧ k ≠ 31)) → s.1 c k = I c k) (fun j s => fun Q => Rn sc (d + 5) 296 28 [some (.ref 89), some (.int (nI err)), some (.int (nI S)), some (.int (nI (wbF A S j).1)), some (.int (nI (wbF A S j).2)), some (.int (nI (j + 1))), s.2] [] (K0, s.1, J, R1 T) Q) 7 (by
            rintro j ⟨I4, u⟩ hj f4
            have f4 : ∀ c k, c ≠ 99 ∧ c ≠ 103 ∧ (c ≠ 89 ∨ (k ≠ 30 ∧ k ≠ 31)) → I4 c k = I c k := f4
            have lj : ¬ 8 ≤ j + 1 := by omega
            obtain ⟨I5, f5, q5⟩ := sp_alikeM (sc := sc) (d := d + 1) (J := J) (T := T) (w := j + 1) (by omega) hS wA h5' oS (AtM_c mI.1 (fun k => f4 _ _ (by omega)))
            have la := al_le (A := A) (S := S) (w := j + 1) 8
            have lw := wb_le (A := A) (S := S) j
            refine ⟨(I5, some (.int (nI (akN A S (j + 1) 8)))), fun c k hc => (f5 c k hc).trans (f4 c k hc), funext fun Q => ?_⟩
            show Rn _ _ _ _ _ _ _ _ = Rn _ _ _ _ _ _ _ _
            rw [x296_28, wbF]
            by_cases c : akN A S (j + 1) 8 < (wbF A S j).2
            · rw [if_pos c]
              simp (disch := first | assumption | omega | decide) only [x296_29, x296_30, x296_31, x296_32, x296_33, x296_34, x296_35, x296_36, x296_37, x296_38, x296_39, x296_40, x296_41, x296_42, x296_43, x296_44, x296_45, ↓reduceIte, Option.toList, List.nil_append, List.cons_append, nI_add, pk_mul, n_and, n_or, n_xor, nI_leI, nI_ltI, nI_eq, n_z, uI_s, uI_n, bI_n0, bI_n1, bT, bF, if_true, if_false, not_true, not_false_eq_true, pk_div, pk_rem, Nat.reduceEqDiff, Nat.reduceLeDiff, Nat.reduceLT, Nat.reduceAdd, Nat.reduceMul, Nat.reduceSub, Nat.not_lt_zero, Nat.zero_le, reduceCtorEq, ite_self, n_rem, and_self, and_true, true_and, and_false, false_and, lj, q5, c]
            · rw [if_neg c]
              simp (disch := first | assumption | omega | decide) only [x296_29, x296_30, x296_31, x296_32, x296_33, x296_34, x296_35, x296_36, x296_37, x296_38, x296_39, x296_40, x296_41, x296_42, x296_43, x296_44, x296_45, ↓reduceIte, Option.toList, List.nil_append, List.cons_append, nI_add, pk_mul, n_and, n_or, n_xor, nI_leI, nI_ltI, nI_eq, n_z, uI_s, uI_n, bI_n0, bI_n1, bT, bF, if_true, if_false, not_true, not_false_eq_true, pk_div, pk_rem, Nat.reduceEqDiff, Nat.reduceLeDiff, Nat.reduceLT, Nat.reduceAdd, Nat.reduceMul, Nat.reduceSub, Nat.not_lt_zero, Nat.zero_le, reduceCtorEq, ite_self, n_rem, and_self, and_true, true_and, and_false, false_and, lj, q5, c]) (I3, some (.int (nI (akN A S 0 8)))) (fun c k hc => (f3 c k hc).trans (g2 c k hc))
          have f' : ∀ c k, c ≠ 99 ∧ c ≠ 103 ∧ (c ≠ 89 ∨ (k ≠ 30 ∧ k ≠ 31)) → I' c k = I c k := f'
          refine ⟨I', J, ⟨fun c k hc => f' c k (by omega), fun k hk => f' _ _ (by omega)⟩, MI_c mI (fun c k hc => f' c k (by omega)) (f' _ _ (by omega)), fun Q => ?_⟩
          have h3' := congrFun h3 Q
          have c0 : akN A S 0 8 < 1000000 := by omega
          simp (disch := first | assumption | omega | decide) only [x296_0, x296_1, x296_2, x296_3, x296_4, x296_5, x296_6, x296_7, x296_8, x296_9, x296_10, x296_11, x296_12, x296_13, x296_14, x296_15, x296_16, x296_17, x296_18, x296_19, x296_20, x296_21, x296_22, x296_23, x296_24, x296_25, x296_26, x296_27, ↓reduceIte, Option.toList, List.nil_append, List.cons_append, nI_add, pk_mul, n_and, n_or, n_xor, nI_leI, nI_ltI, nI_eq, n_z, uI_s, uI_n, bI_n0, bI_n1, bT, bF, if_true, if_false, not_true, not_false_eq_true, pk_div, pk_rem, Nat.reduceEqDiff, Nat.reduceLeDiff, Nat.reduceLT, Nat.reduceAdd, Nat.reduceMul, Nat.reduceSub, Nat.not_lt_zero, Nat.zero_le, reduceCtorEq, ite_self, n_rem, and_self, and_true, true_and, and_false, false_and, sp_isIn, ↓in_t, e5, h5, q1, sp_bits, h2, q2]
          rw [x296_28]
          simp (disch := first | assumption | omega | decide) only [x296_29, x296_30, x296_31, x296_32, x296_33, x296_34, x296_35, x296_36, x296_37, x296_38, x296_39, x296_40, x296_41, x296_42, x296_43, x296_44, x296_45, ↓reduceIte, Option.toList, List.nil_append, List.cons_append, nI_add, pk_mul, n_and, n_or, n_xor, nI_leI, nI_ltI, nI_eq, n_z, uI_s, uI_n, bI_n0, bI_n1, bT, bF, if_true, if_false, not_true, not_false_eq_true, pk_div, pk_rem, Nat.reduceEqDiff, Nat.reduceLeDiff, Nat.reduceLT, Nat.reduceAdd, Nat.reduceMul, Nat.reduceSub, Nat.not_lt_zero, Nat.zero_le, reduceCtorEq, ite_self, n_rem, and_self, and_true, true_and, and_false, false_and, q3, c0]
          refine Eq.trans h3' ?_
          show Rn _ _ _ _ _ _ _ _ = _
          rw [x296_28]
          simp (disch := first | assumption | omega | decide) only [x296_29, x296_30, x296_46, x296_47, ↓reduceIte, Option.toList, List.nil_append, List.cons_append, nI_add, pk_mul, n_and, n_or, n_xor, nI_leI, nI_ltI, nI_eq, n_z, uI_s, uI_n, bI_n0, bI_n1, bT, bF, if_true, if_false, not_true, not_false_eq_true, pk_div, pk_rem, Nat.reduceEqDiff, Nat.reduceLeDiff, Nat.reduceLT, Nat.reduceAdd, Nat.reduceMul, Nat.reduceSub, Nat.not_lt_zero, Nat.zero_le, reduceCtorEq, ite_self, n_rem, and_self, and_true, true_and, and_false, false_and, Nat.le_refl]
      · have h2' : ¬ 2 ≤ pcN S := h2
        refine ⟨-1, A, B, w', Nat.le_refl _, ?_, ?_⟩
        · intro I J T cI _
          obtain ⟨n1, n2, n3, n4, n5, n6⟩ := cI.2.2.2.2.1
          obtain ⟨I1, f1, k1, g1, q1⟩ := sp_weigh (sc := sc) (d := d + 2) (J := J) (T := T) w' cI
          have sp := sp_susp (sc := sc) (d := d + 4) (J := J) (T := T) he wA g1 dp
          rw [← eS] at sp
          have bc := fun Q => sp_bitCount (Q := Q) (sc := sc) (d := d + 3) (I := I1) (J := J) (T := T) hS
          refine ⟨I1, fun c k hc => f1 c k (by omega), CI_c w' cI (fun c k hc => f1 c k (by omega)), fun Q => ?_⟩
          simp (disch := first | assumption | omega | decide) only [x150_0, x150_1, x150_2, x150_3, x150_4, x150_5, x150_6, x150_7, x150_8, x150_9, x150_10, x150_11, x150_12, x150_13, x150_14, x150_15, x150_16, x150_17, x150_18, x150_19, x150_20, x150_21, x9_0, x9_1, x9_2, x9_3, x9_4, x9_5, ↓reduceIte, Option.toList, List.nil_append, List.cons_append, nI_add, pk_mul, n_and, n_or, n_xor, nI_leI, nI_ltI, nI_eq, n_z, uI_s, uI_n, bI_n0, bI_n1, bT, bF, if_true, if_false, not_true, not_false_eq_true, pk_div, pk_rem, Nat.reduceEqDiff, Nat.reduceLeDiff, Nat.reduceLT, Nat.reduceAdd, Nat.reduceMul, Nat.reduceSub, Nat.not_lt_zero, Nat.zero_le, reduceCtorEq, ite_self, n_rem, and_self, and_true, true_and, and_false, false_and, sp_isWithin, ↓in_t, n1, h5, q1, sp, bc, h2']
        · intro I J T mI _
          have e5 : I 90 5 = nI (A 5) := mI.1 5 (by decide)
          obtain ⟨I1, f1, q1⟩ := sp_beganBy (sc := sc) (d := d) (J := J) (T := T) he wA mI.1 dp
          rw [← eS] at q1
          refine ⟨I1, J, ⟨fun c k hc => f1 c k (by omega), fun k hk => f1 _ _ (by omega)⟩, MI_c mI (fun c k hc => f1 c k (by omega)) (f1 _ _ (by omega)), fun Q => ?_⟩
          simp (disch := first | assumption | omega | decide) only [x296_0, x296_1, x296_2, x296_3, x296_4, x296_5, x296_6, x296_7, x296_8, x296_9, x296_10, x296_11, x296_12, x296_13, x296_14, x296_15, x296_16, x296_17, ↓reduceIte, Option.toList, List.nil_append, List.cons_append, nI_add, pk_mul, n_and, n_or, n_xor, nI_leI, nI_ltI, nI_eq, n_z, uI_s, uI_n, bI_n0, bI_n1, bT, bF, if_true, if_false, not_true, not_false_eq_true, pk_div, pk_rem, Nat.reduceEqDiff, Nat.reduceLeDiff, Nat.reduceLT, Nat.reduceAdd, Nat.reduceMul, Nat.reduceSub, Nat.not_lt_zero, Nat.zero_le, reduceCtorEq, ite_self, n_rem, and_self, and_true, true_and, and_false, false_and, sp_isIn, ↓in_t, e5, h5, q1, sp_bits, h2']
  · refine jtR w' (-1) ?_ ?_ <;> intro I J T Q hI
    · simp (disch := first | assumption | omega | decide) only [x150_0, x150_1, x150_2, x150_3, x150_4, x150_5, x150_6, x150_7, x150_8, x150_9, x150_10, x150_11, x150_12, x150_13, x150_14, x150_15, x150_16, x150_17, x150_18, x150_19, x150_20, x150_21, ↓reduceIte, Option.toList, List.nil_append, List.cons_append, nI_add, pk_mul, n_and, n_or, n_xor, nI_leI, nI_ltI, nI_eq, n_z, uI_s, uI_n, bI_n0, bI_n1, bT, bF, if_true, if_false, not_true, not_false_eq_true, pk_div, pk_rem, Nat.reduceEqDiff, Nat.reduceLeDiff, Nat.reduceLT, Nat.reduceAdd, Nat.reduceMul, Nat.reduceSub, Nat.not_lt_zero, Nat.zero_le, reduceCtorEq, ite_self, n_rem, and_self, and_true, true_and, and_false, false_and, sp_isWithin, ↓in_f hx]
    · simp (disch := first | assumption | omega | decide) only [x296_0, x296_1, x296_2, x296_3, x296_4, x296_5, x296_6, x296_7, x296_8, x296_9, x296_10, x296_11, x296_12, x296_13, x296_14, x296_15, x296_16, x296_17, ↓reduceIte, Option.toList, List.nil_append, List.cons_append, nI_add, pk_mul, n_and, n_or, n_xor, nI_leI, nI_ltI, nI_eq, n_z, uI_s, uI_n, bI_n0, bI_n1, bT, bF, if_true, if_false, not_true, not_false_eq_true, pk_div, pk_rem, Nat.reduceEqDiff, Nat.reduceLeDiff, Nat.reduceLT, Nat.reduceAdd, Nat.reduceMul, Nat.reduceSub, Nat.not_lt_zero, Nat.zero_le, reduceCtorEq, ite_self, n_rem, and_self, and_true, true_and, and_false, false_and, sp_isIn, ↓in_f hx]
end Ask2
