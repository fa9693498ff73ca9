/-! what a law's code says on the reference's side: the operators -/
def bd (x : Int32) : Prop := -1000000 ≤ x.toInt ∧ x.toInt ≤ 1000000
def bo (b : Bool) : Int32 := if b = true then nI 1 else nI 0
theorem bo_01 (b : Bool) : bo b = 0 ∨ bo b = 1 := by
  cases b
  · exact Or.inl rfl
  · exact Or.inr rfl
theorem n_m2 (n : Nat) : nI (n + 2) + (-2) = nI n := by
  have e : nI (n + 2) = nI n + nI 2 := (nI_add n 2).symm
  rw [e, Int32.add_assoc, show nI 2 + (-2) = (0 : Int32) by decide, Int32.add_zero]
theorem cut_b (v : Int64) : bd (cutI v) := by
  unfold cutI
  by_cases h1 : (1000000 : Int64) < v
  · rw [if_pos h1]
    unfold bd
    decide
  · rw [if_neg h1]
    by_cases h2 : v < -1000000
    · rw [if_pos h2]
      unfold bd
      decide
    · rw [if_neg h2]
      have h3 := Int64.le_iff_toInt_le.mp (Int64.not_lt.mp h1)
      have h4 := Int64.le_iff_toInt_le.mp (Int64.not_lt.mp h2)
      have e1 : (1000000 : Int64).toInt = 1000000 := by decide
      have e2 : (-1000000 : Int64).toInt = -1000000 := by decide
      rw [e1] at h3
      rw [e2] at h4
      have e3 : v.toInt32.toInt = v.toInt := by
        rw [← Int32.toInt_toInt64, lg_i2l_l2i (by omega) (by omega)]
      unfold bd
      rw [e3]
      omega
theorem cut_j {v : Int64} (h1 : -1000000 ≤ v.toInt) (h2 : v.toInt ≤ 1000000) : (cutI v).toInt64 = v := by
  have e1 : (1000000 : Int64).toInt = 1000000 := by decide
  have e2 : (-1000000 : Int64).toInt = -1000000 := by decide
  unfold cutI
  rw [if_neg, if_neg, lg_i2l_l2i (by omega) (by omega)]
  · rw [Int64.lt_iff_toInt_lt, e1]
    omega
  · rw [if_neg]
    · rw [Int64.lt_iff_toInt_lt, e2]
      omega
    · rw [Int64.lt_iff_toInt_lt, e1]
      omega
theorem neg_j {x : Int32} (h : bd x) : (-x).toInt64 = -x.toInt64 := by
  apply Int32.toInt64_neg_of_ne
  rintro rfl
  exact absurd h (by unfold bd; decide)
theorem mean_j {x y : Int32} (hx : bd x) (hy : bd y) : (cutI (op2 19 x.toInt64 y.toInt64)).toInt64 = (x.toInt64 + y.toInt64) / 2 := by
  have e : (x.toInt64 + y.toInt64).toInt = x.toInt + y.toInt := lg_i2l_add x y
  have h2 : ((x.toInt64 + y.toInt64) / 2).toInt = (x.toInt + y.toInt).tdiv 2 := by
    rw [Int64.toInt_div_of_ne_right _ _ (by decide), e]
    rfl
  obtain ⟨a1, a2⟩ := hx
  obtain ⟨b1, b2⟩ := hy
  have h3 : -1000000 ≤ (x.toInt + y.toInt).tdiv 2 ∧ (x.toInt + y.toInt).tdiv 2 ≤ 1000000 := by
    by_cases h0 : 0 ≤ x.toInt + y.toInt
    · rw [Int.tdiv_eq_ediv_of_nonneg h0]
      omega
    · rw [show x.toInt + y.toInt = -(-(x.toInt + y.toInt)) by omega, Int.neg_tdiv, Int.tdiv_eq_ediv_of_nonneg (by omega)]
      omega
  show (cutI ((x.toInt64 + y.toInt64) / 2)).toInt64 = _
  apply cut_j
  · rw [h2]; exact h3.1
  · rw [h2]; exact h3.2
/-- the reference's signs by the class's words -/
theorem j_gen (x y : Int64) : (nI 0 ≤ lg_cmp x y) = (y ≤ x) := j_ge x y
theorem j_ltn (x y : Int64) : (lg_cmp x y < nI 0) = (x < y) := j_lt x y
def asW (o : Nat) : Nat := if o = 10 then 28 else if o = 11 then 39 else if o = 12 then 29 else if o = 13 then 40 else if o = 14 then 30 else 31
section EvM
variable {sc : Sc} {d : Nat} {I : Nat → Nat → Int32} {J : Nat → Nat → Int64} {T : Option Nat} {Q : Option Value → Mm → Prop} {A : Nat → Nat}
theorem sp_clip {v : Int64} : Rn sc d 222 0 [some (.long v), none] [] (K0, I, J, R1 T) Q = Q (some (.long (cutI v).toInt64)) (K0, I, J, R1 T) := by
  by_cases h1 : (1000000 : Int64) < v
  · have h2 : ¬ v ≤ 1000000 := Int64.not_le.mpr h1
    simp (disch := first | assumption | omega | decide) only [x222_0, x222_1, x222_2, x222_3, x222_4, x222_5, x222_6, x222_7, x222_8, x222_9, x222_10, x222_11, x222_12, x222_13, j_le, h2, ↓reduceIte]
    rw [show cutI v = (1000000 : Int64).toInt32 by unfold cutI; rw [if_pos h1]; rfl]
    rfl
  · have h2 : v ≤ 1000000 := Int64.not_lt.mp h1
    by_cases h3 : v < -1000000
    · have h4 : ¬ -1000000 ≤ v := Int64.not_le.mpr h3
      simp (disch := first | assumption | omega | decide) only [x222_0, x222_1, x222_2, x222_3, x222_4, x222_5, x222_6, x222_7, x222_8, x222_9, x222_10, x222_11, x222_12, x222_13, j_le, j_ge, h2, h4, ↓reduceIte]
      rw [show cutI v = (-1000000 : Int64).toInt32 by unfold cutI; rw [if_neg h1, if_pos h3]]
      rfl
    · have h4 : -1000000 ≤ v := Int64.not_lt.mp h3
      simp (disch := first | assumption | omega | decide) only [x222_0, x222_1, x222_2, x222_3, x222_4, x222_5, x222_6, x222_7, x222_8, x222_9, x222_10, x222_11, x222_12, x222_13, j_le, j_ge, h2, h4, ↓reduceIte]
      have e1 : (1000000 : Int64).toInt = 1000000 := by decide
      have e2 : (-1000000 : Int64).toInt = -1000000 := by decide
      have h5 := Int64.le_iff_toInt_le.mp h2
      have h6 := Int64.le_iff_toInt_le.mp h4
      rw [e1] at h5
      rw [e2] at h6
      rw [cut_j h6 h5]
theorem sp_two {o : Nat} {x y : Int64} (h : o = 6 ∨ o = 7 ∨ o = 8 ∨ o = 9) : Rn sc (d + 1) 223 0 [some (.int (nI o)), some (.long x), none, some (.long y), none] [] (K0, I, J, R1 T) Q = Q (some (.long (cutI (op2 (o + 26) x y)).toInt64)) (K0, I, J, R1 T) := by
  rcases h with rfl | rfl | rfl | rfl
  · simp (disch := first | assumption | omega | decide) only [x223_0, x223_1_6, x223_1_7, x223_1_8, x223_1_d, x223_2, x223_3, x223_4, x223_5, x223_6, x223_7, x223_8, x223_9, x223_10, x223_11, x223_12, x223_13, x223_14, x223_15, x223_16, x223_17, x223_18, x223_19, x223_20, x223_21, x223_22, x223_23, x223_24, x223_25, x223_26, x223_27, sp_clip, ↓reduceIte, Option.toList, List.nil_append, List.cons_append, nI_add, pk_mul, n_and, n_or, n_xor, nI_leI, nI_ltI, nI_eq, n_z, uI_s, uI_n, bI_n0, bI_n1, bT, bF, if_true, if_false, not_true, not_false_eq_true, pk_div, pk_rem, Nat.reduceEqDiff, Nat.reduceLeDiff, Nat.reduceLT, Nat.reduceAdd, Nat.reduceMul, Nat.reduceSub, Nat.not_lt_zero, Nat.zero_le, reduceCtorEq, ite_self, n_rem, and_self, and_true, true_and, and_false, false_and]
    rfl
  · simp (disch := first | assumption | omega | decide) only [x223_0, x223_1_6, x223_1_7, x223_1_8, x223_1_d, x223_2, x223_3, x223_4, x223_5, x223_6, x223_7, x223_8, x223_9, x223_10, x223_11, x223_12, x223_13, x223_14, x223_15, x223_16, x223_17, x223_18, x223_19, x223_20, x223_21, x223_22, x223_23, x223_24, x223_25, x223_26, x223_27, sp_clip, ↓reduceIte, Option.toList, List.nil_append, List.cons_append, nI_add, pk_mul, n_and, n_or, n_xor, nI_leI, nI_ltI, nI_eq, n_z, uI_s, uI_n, bI_n0, bI_n1, bT, bF, if_true, if_false, not_true, not_false_eq_true, pk_div, pk_rem, Nat.reduceEqDiff, Nat.reduceLeDiff, Nat.reduceLT, Nat.reduceAdd, Nat.reduceMul, Nat.reduceSub, Nat.not_lt_zero, Nat.zero_le, reduceCtorEq, ite_self, n_rem, and_self, and_true, true_and, and_false, false_and]
    rfl
  · simp (disch := first | assumption | omega | decide) only [x223_0, x223_1_6, x223_1_7, x223_1_8, x223_1_d, x223_2, x223_3, x223_4, x223_5, x223_6, x223_7, x223_8, x223_9, x223_10, x223_11, x223_12, x223_13, x223_14, x223_15, x223_16, x223_17, x223_18, x223_19, x223_20, x223_21, x223_22, x223_23, x223_24, x223_25, x223_26, x223_27, sp_clip, ↓reduceIte, Option.toList, List.nil_append, List.cons_append, nI_add, pk_mul, n_and, n_or, n_xor, nI_leI, nI_ltI, nI_eq, n_z, uI_s, uI_n, bI_n0, bI_n1, bT, bF, if_true, if_false, not_true, not_false_eq_true, pk_div, pk_rem, Nat.reduceEqDiff, Nat.reduceLeDiff, Nat.reduceLT, Nat.reduceAdd, Nat.reduceMul, Nat.reduceSub, Nat.not_lt_zero, Nat.zero_le, reduceCtorEq, ite_self, n_rem, and_self, and_true, true_and, and_false, false_and]
    rfl
  · rw [x223_0, x223_1_d (Or.inr (by decide))]
    by_cases c : y = 0
    · simp (disch := first | assumption | omega | decide) only [x223_2, x223_3, x223_4, x223_5, x223_6, x223_7, x223_8, x223_9, x223_10, x223_11, x223_12, x223_13, x223_14, x223_15, x223_16, x223_17, x223_18, x223_19, x223_20, x223_21, x223_22, x223_23, x223_24, x223_25, x223_26, x223_27, sp_clip, j_eq, c, Option.toList, List.nil_append, List.cons_append, not_true, if_false, ↓reduceIte]
      rw [show cutI (op2 (9 + 26) x 0) = 0 by rw [show op2 (9 + 26) x 0 = 0 from if_pos (c := (0 : Int64) = 0) (e := x / 0) rfl]; decide]
      rfl
    · simp (disch := first | assumption | omega | decide) only [x223_2, x223_3, x223_4, x223_5, x223_6, x223_7, x223_8, x223_9, x223_10, x223_11, x223_12, x223_13, x223_14, x223_15, x223_16, x223_17, x223_18, x223_19, x223_20, x223_21, x223_22, x223_23, x223_24, x223_25, x223_26, x223_27, sp_clip, j_eq, c, Option.toList, List.nil_append, List.cons_append, not_false_eq_true, ↓reduceIte]
      rw [show op2 (9 + 26) x y = x / y from if_neg c]
theorem bo_d {p : Prop} [Decidable p] (h : p) : bo (decide p) = nI 1 := by
  rw [decide_eq_true h]
  rfl
theorem bo_n {p : Prop} [Decidable p] (h : ¬ p) : bo (decide p) = nI 0 := by
  rw [decide_eq_false h]
  rfl
theorem sp_asked {o : Nat} {x y : Int64} (h : 10 ≤ o ∧ o ≤ 15) : Rn sc d 224 0 [some (.int (nI o)), some (.long x), none, some (.long y), none] [] (K0, I, J, R1 T) Q = Q (some (.int (bo (decide (op2 (asW o) x y = 1))))) (K0, I, J, R1 T) := by
  have h' : o = 10 ∨ o = 11 ∨ o = 12 ∨ o = 13 ∨ o = 14 ∨ o = 15 := by omega
  rcases h' with rfl | rfl | rfl | rfl | rfl | rfl
  · by_cases c : x < y
    · have c' : ¬ y ≤ x := Int64.not_le.mpr c
      rw [bo_d (show op2 (asW 10) x y = 1 from if_pos c)]
      simp (disch := first | assumption | omega | decide) only [x224_0, x224_1, x224_2, x224_3, x224_4, x224_5, x224_6, x224_7, x224_8, x224_9, x224_10, x224_11, x224_12, x224_13, x224_14, x224_15, x224_16, x224_17, x224_18, x224_19, x224_20, x224_21, x224_22, x224_23, x224_24, x224_25, x224_26, x224_27, x224_28, x224_29, x224_30, x224_31, x224_32, x224_33, x224_34, x224_35, x224_36, x224_37, x224_38, x224_39, x224_40, x224_41, x224_42, x224_43, x224_44, x224_45, x224_46, x224_47, x224_48, x224_49, x224_50, x224_51, x224_52, x224_53, x224_54, x224_55, x224_56, x224_57, x224_58, x224_59, x224_60, x224_61, x224_62, j_ge, c', nI_eq, not_true, if_false, Nat.reduceEqDiff, ↓reduceIte]
    · have c' : y ≤ x := Int64.not_lt.mp c
      rw [bo_n (show ¬ op2 (asW 10) x y = 1 by rw [show op2 (asW 10) x y = 0 from if_neg c]; decide)]
      simp (disch := first | assumption | omega | decide) only [x224_0, x224_1, x224_2, x224_3, x224_4, x224_5, x224_6, x224_7, x224_8, x224_9, x224_10, x224_11, x224_12, x224_13, x224_14, x224_15, x224_16, x224_17, x224_18, x224_19, x224_20, x224_21, x224_22, x224_23, x224_24, x224_25, x224_26, x224_27, x224_28, x224_29, x224_30, x224_31, x224_32, x224_33, x224_34, x224_35, x224_36, x224_37, x224_38, x224_39, x224_40, x224_41, x224_42, x224_43, x224_44, x224_45, x224_46, x224_47, x224_48, x224_49, x224_50, x224_51, x224_52, x224_53, x224_54, x224_55, x224_56, x224_57, x224_58, x224_59, x224_60, x224_61, x224_62, j_ge, c', nI_eq, not_true, if_false, Nat.reduceEqDiff, ↓reduceIte]
  · by_cases c : x ≤ y
    · have c' : ¬ y < x := Int64.not_lt.mpr c
      rw [bo_d (show op2 (asW 11) x y = 1 from if_pos c)]
      simp (disch := first | assumption | omega | decide) only [x224_0, x224_1, x224_2, x224_3, x224_4, x224_5, x224_6, x224_7, x224_8, x224_9, x224_10, x224_11, x224_12, x224_13, x224_14, x224_15, x224_16, x224_17, x224_18, x224_19, x224_20, x224_21, x224_22, x224_23, x224_24, x224_25, x224_26, x224_27, x224_28, x224_29, x224_30, x224_31, x224_32, x224_33, x224_34, x224_35, x224_36, x224_37, x224_38, x224_39, x224_40, x224_41, x224_42, x224_43, x224_44, x224_45, x224_46, x224_47, x224_48, x224_49, x224_50, x224_51, x224_52, x224_53, x224_54, x224_55, x224_56, x224_57, x224_58, x224_59, x224_60, x224_61, x224_62, j_gt, c', nI_eq, not_true, not_false_eq_true, Nat.reduceEqDiff, ↓reduceIte]
    · have c' : y < x := Int64.not_le.mp c
      rw [bo_n (show ¬ op2 (asW 11) x y = 1 by rw [show op2 (asW 11) x y = 0 from if_neg c]; decide)]
      simp (disch := first | assumption | omega | decide) only [x224_0, x224_1, x224_2, x224_3, x224_4, x224_5, x224_6, x224_7, x224_8, x224_9, x224_10, x224_11, x224_12, x224_13, x224_14, x224_15, x224_16, x224_17, x224_18, x224_19, x224_20, x224_21, x224_22, x224_23, x224_24, x224_25, x224_26, x224_27, x224_28, x224_29, x224_30, x224_31, x224_32, x224_33, x224_34, x224_35, x224_36, x224_37, x224_38, x224_39, x224_40, x224_41, x224_42, x224_43, x224_44, x224_45, x224_46, x224_47, x224_48, x224_49, x224_50, x224_51, x224_52, x224_53, x224_54, x224_55, x224_56, x224_57, x224_58, x224_59, x224_60, x224_61, x224_62, j_gt, c', nI_eq, not_true, not_false_eq_true, Nat.reduceEqDiff, ↓reduceIte]
  · by_cases c : y < x
    · have c' : ¬ x ≤ y := Int64.not_le.mpr c
      rw [bo_d (show op2 (asW 12) x y = 1 from if_pos c)]
      simp (disch := first | assumption | omega | decide) only [x224_0, x224_1, x224_2, x224_3, x224_4, x224_5, x224_6, x224_7, x224_8, x224_9, x224_10, x224_11, x224_12, x224_13, x224_14, x224_15, x224_16, x224_17, x224_18, x224_19, x224_20, x224_21, x224_22, x224_23, x224_24, x224_25, x224_26, x224_27, x224_28, x224_29, x224_30, x224_31, x224_32, x224_33, x224_34, x224_35, x224_36, x224_37, x224_38, x224_39, x224_40, x224_41, x224_42, x224_43, x224_44, x224_45, x224_46, x224_47, x224_48, x224_49, x224_50, x224_51, x224_52, x224_53, x224_54, x224_55, x224_56, x224_57, x224_58, x224_59, x224_60, x224_61, x224_62, j_le, c', nI_eq, not_true, not_false_eq_true, Nat.reduceEqDiff, ↓reduceIte]
    · have c' : x ≤ y := Int64.not_lt.mp c
      rw [bo_n (show ¬ op2 (asW 12) x y = 1 by rw [show op2 (asW 12) x y = 0 from if_neg c]; decide)]
      simp (disch := first | assumption | omega | decide) only [x224_0, x224_1, x224_2, x224_3, x224_4, x224_5, x224_6, x224_7, x224_8, x224_9, x224_10, x224_11, x224_12, x224_13, x224_14, x224_15, x224_16, x224_17, x224_18, x224_19, x224_20, x224_21, x224_22, x224_23, x224_24, x224_25, x224_26, x224_27, x224_28, x224_29, x224_30, x224_31, x224_32, x224_33, x224_34, x224_35, x224_36, x224_37, x224_38, x224_39, x224_40, x224_41, x224_42, x224_43, x224_44, x224_45, x224_46, x224_47, x224_48, x224_49, x224_50, x224_51, x224_52, x224_53, x224_54, x224_55, x224_56, x224_57, x224_58, x224_59, x224_60, x224_61, x224_62, j_le, c', nI_eq, not_true, not_false_eq_true, Nat.reduceEqDiff, ↓reduceIte]
  · by_cases c : y ≤ x
    · have c' : ¬ x < y := Int64.not_lt.mpr c
      rw [bo_d (show op2 (asW 13) x y = 1 from if_pos c)]
      simp (disch := first | assumption | omega | decide) only [x224_0, x224_1, x224_2, x224_3, x224_4, x224_5, x224_6, x224_7, x224_8, x224_9, x224_10, x224_11, x224_12, x224_13, x224_14, x224_15, x224_16, x224_17, x224_18, x224_19, x224_20, x224_21, x224_22, x224_23, x224_24, x224_25, x224_26, x224_27, x224_28, x224_29, x224_30, x224_31, x224_32, x224_33, x224_34, x224_35, x224_36, x224_37, x224_38, x224_39, x224_40, x224_41, x224_42, x224_43, x224_44, x224_45, x224_46, x224_47, x224_48, x224_49, x224_50, x224_51, x224_52, x224_53, x224_54, x224_55, x224_56, x224_57, x224_58, x224_59, x224_60, x224_61, x224_62, j_lt, c', nI_eq, not_true, not_false_eq_true, Nat.reduceEqDiff, ↓reduceIte]
    · have c' : x < y := Int64.not_le.mp c
      rw [bo_n (show ¬ op2 (asW 13) x y = 1 by rw [show op2 (asW 13) x y = 0 from if_neg c]; decide)]
      simp (disch := first | assumption | omega | decide) only [x224_0, x224_1, x224_2, x224_3, x224_4, x224_5, x224_6, x224_7, x224_8, x224_9, x224_10, x224_11, x224_12, x224_13, x224_14, x224_15, x224_16, x224_17, x224_18, x224_19, x224_20, x224_21, x224_22, x224_23, x224_24, x224_25, x224_26, x224_27, x224_28, x224_29, x224_30, x224_31, x224_32, x224_33, x224_34, x224_35, x224_36, x224_37, x224_38, x224_39, x224_40, x224_41, x224_42, x224_43, x224_44, x224_45, x224_46, x224_47, x224_48, x224_49, x224_50, x224_51, x224_52, x224_53, x224_54, x224_55, x224_56, x224_57, x224_58, x224_59, x224_60, x224_61, x224_62, j_lt, c', nI_eq, not_true, not_false_eq_true, Nat.reduceEqDiff, ↓reduceIte]
  · by_cases c : x = y
    · rw [bo_d (show op2 (asW 14) x y = 1 from if_pos c)]
      simp (disch := first | assumption | omega | decide) only [x224_0, x224_1, x224_2, x224_3, x224_4, x224_5, x224_6, x224_7, x224_8, x224_9, x224_10, x224_11, x224_12, x224_13, x224_14, x224_15, x224_16, x224_17, x224_18, x224_19, x224_20, x224_21, x224_22, x224_23, x224_24, x224_25, x224_26, x224_27, x224_28, x224_29, x224_30, x224_31, x224_32, x224_33, x224_34, x224_35, x224_36, x224_37, x224_38, x224_39, x224_40, x224_41, x224_42, x224_43, x224_44, x224_45, x224_46, x224_47, x224_48, x224_49, x224_50, x224_51, x224_52, x224_53, x224_54, x224_55, x224_56, x224_57, x224_58, x224_59, x224_60, x224_61, x224_62, j_eq, c, nI_eq, not_true, not_false_eq_true, Nat.reduceEqDiff, ↓reduceIte]
    · rw [bo_n (show ¬ op2 (asW 14) x y = 1 by rw [show op2 (asW 14) x y = 0 from if_neg c]; decide)]
      simp (disch := first | assumption | omega | decide) only [x224_0, x224_1, x224_2, x224_3, x224_4, x224_5, x224_6, x224_7, x224_8, x224_9, x224_10, x224_11, x224_12, x224_13, x224_14, x224_15, x224_16, x224_17, x224_18, x224_19, x224_20, x224_21, x224_22, x224_23, x224_24, x224_25, x224_26, x224_27, x224_28, x224_29, x224_30, x224_31, x224_32, x224_33, x224_34, x224_35, x224_36, x224_37, x224_38, x224_39, x224_40, x224_41, x224_42, x224_43, x224_44, x224_45, x224_46, x224_47, x224_48, x224_49, x224_50, x224_51, x224_52, x224_53, x224_54, x224_55, x224_56, x224_57, x224_58, x224_59, x224_60, x224_61, x224_62, j_eq, c, nI_eq, not_true, not_false_eq_true, Nat.reduceEqDiff, ↓reduceIte]
  · by_cases c : x = y
    · rw [bo_n (show ¬ op2 (asW 15) x y = 1 by rw [show op2 (asW 15) x y = 0 from if_pos c]; decide)]
      simp (disch := first | assumption | omega | decide) only [x224_0, x224_1, x224_2, x224_3, x224_4, x224_5, x224_6, x224_7, x224_8, x224_9, x224_10, x224_11, x224_12, x224_13, x224_14, x224_15, x224_16, x224_17, x224_18, x224_19, x224_20, x224_21, x224_22, x224_23, x224_24, x224_25, x224_26, x224_27, x224_28, x224_29, x224_30, x224_31, x224_32, x224_33, x224_34, x224_35, x224_36, x224_37, x224_38, x224_39, x224_40, x224_41, x224_42, x224_43, x224_44, x224_45, x224_46, x224_47, x224_48, x224_49, x224_50, x224_51, x224_52, x224_53, x224_54, x224_55, x224_56, x224_57, x224_58, x224_59, x224_60, x224_61, x224_62, j_eq, c, nI_eq, not_true, not_false_eq_true, Nat.reduceEqDiff, ↓reduceIte]
    · rw [bo_d (show op2 (asW 15) x y = 1 from if_neg c)]
      simp (disch := first | assumption | omega | decide) only [x224_0, x224_1, x224_2, x224_3, x224_4, x224_5, x224_6, x224_7, x224_8, x224_9, x224_10, x224_11, x224_12, x224_13, x224_14, x224_15, x224_16, x224_17, x224_18, x224_19, x224_20, x224_21, x224_22, x224_23, x224_24, x224_25, x224_26, x224_27, x224_28, x224_29, x224_30, x224_31, x224_32, x224_33, x224_34, x224_35, x224_36, x224_37, x224_38, x224_39, x224_40, x224_41, x224_42, x224_43, x224_44, x224_45, x224_46, x224_47, x224_48, x224_49, x224_50, x224_51, x224_52, x224_53, x224_54, x224_55, x224_56, x224_57, x224_58, x224_59, x224_60, x224_61, x224_62, j_eq, c, nI_eq, not_true, not_false_eq_true, Nat.reduceEqDiff, ↓reduceIte]
theorem sp_joined {o : Nat} {a b : Bool} (h : o = 21 ∨ o = 22) : Rn sc d 226 0 [some (.int (nI o)), some (.int (bo a)), some (.int (bo b))] [] (K0, I, J, R1 T) Q = Q (some (.int (bo (if o = 21 then (a && b) else (a || b))))) (K0, I, J, R1 T) := by
  have e1 : bo true = nI 1 := rfl
  have e0 : bo false = nI 0 := rfl
  rcases h with rfl | rfl <;> cases a <;> cases b <;> simp (disch := first | assumption | omega | decide) only [x226_0, x226_1, x226_2, x226_3, x226_4, x226_5, x226_6, x226_7, x226_8, x226_9, x226_10, x226_11, x226_12, x226_13, x226_14, x226_15, x226_16, x226_17, x226_18, ↓reduceIte, Option.toList, List.nil_append, List.cons_append, nI_add, pk_mul, n_and, n_or, n_xor, nI_leI, nI_ltI, nI_eq, n_z, uI_s, uI_n, bI_n0, bI_n1, bT, bF, if_true, if_false, not_true, not_false_eq_true, pk_div, pk_rem, Nat.reduceEqDiff, Nat.reduceLeDiff, Nat.reduceLT, Nat.reduceAdd, Nat.reduceMul, Nat.reduceSub, Nat.not_lt_zero, Nat.zero_le, reduceCtorEq, ite_self, n_rem, and_self, and_true, true_and, and_false, false_and, e1, e0, Bool.and_true, Bool.and_false, Bool.or_true, Bool.or_false, Bool.and_self, Bool.or_self, Bool.false_and, Bool.true_or]
theorem sp_keptM {x : Int32} {u : Option Value} (w : Wf A) (m : AtM I 90 A) : Rn sc (d + 1) 225 0 [some (.ref 89), some (.long x.toInt64), none] [] (K0, I, J, R1 T) Q = Q (some (.long (kpA A x).toInt64)) (K0, I, J, R1 T) := by
  have m' : ∀ k, k < 1799 → I 90 k = nI (A k) := m
  by_cases hx : inR x 8
  · obtain ⟨k, hk, rfl⟩ := hx
    have lk := keep_lt w hk
    have a1 : ¬ (nI k).toInt64 < 0 := by
      rw [Int64.lt_iff_toInt_lt, Int32.toInt_toInt64, nI_toInt (by omega)]
      have : (0 : Int64).toInt = 0 := by decide
      omega
    have a2 : ¬ 8 ≤ (nI k).toInt64 := by
      rw [Int64.le_iff_toInt_le, Int32.toInt_toInt64, nI_toInt (by omega)]
      have : (8 : Int64).toInt = 8 := by decide
      omega
    rw [kpA_t hk]
    simp (disch := first | assumption | omega | decide) only [x225_0, x225_1, x225_2, x225_3, x225_4, x225_5, x225_6, x225_7, x225_8, x225_9, x225_10, x225_11, x225_12, x225_13, x225_14, x225_15, x225_16, x225_17, x225_18, x225_19, j_ltn, j_gen, a1, a2, ↓reduceIte, lg_l2i_i2l, ↓reduceIte, Option.toList, List.nil_append, List.cons_append, nI_add, pk_mul, n_and, n_or, n_xor, nI_leI, nI_ltI, nI_eq, n_z, uI_s, uI_n, bI_n0, bI_n1, bT, bF, if_true, if_false, not_true, not_false_eq_true, pk_div, pk_rem, Nat.reduceEqDiff, Nat.reduceLeDiff, Nat.reduceLT, Nat.reduceAdd, Nat.reduceMul, Nat.reduceSub, Nat.not_lt_zero, Nat.zero_le, reduceCtorEq, ite_self, n_rem, and_self, and_true, true_and, and_false, false_and, m', sp_bits]
  · rw [kpA_f hx]
    rcases inR_f hx (by decide) with h1 | h1
    · have a1 : x.toInt64 < 0 := by
        rw [Int64.lt_iff_toInt_lt, Int32.toInt_toInt64]
        have := Int32.lt_iff_toInt_lt.mp h1
        rw [nI_toInt (by decide)] at this
        have : (0 : Int64).toInt = 0 := by decide
        omega
      simp (disch := first | assumption | omega | decide) only [x225_0, x225_1, x225_2, x225_3, x225_4, x225_5, x225_6, x225_7, x225_8, x225_9, x225_10, x225_11, x225_12, x225_13, x225_14, x225_15, x225_16, x225_17, x225_18, x225_19, j_lt, a1, ↓reduceIte]
      rfl
    · have a1 : ¬ x.toInt64 < 0 := by
        rw [Int64.lt_iff_toInt_lt, Int32.toInt_toInt64]
        have := Int32.le_iff_toInt_le.mp h1
        rw [nI_toInt (by decide)] at this
        have : (0 : Int64).toInt = 0 := by decide
        omega
      have a2 : 8 ≤ x.toInt64 := by
        rw [Int64.le_iff_toInt_le, Int32.toInt_toInt64]
        have := Int32.le_iff_toInt_le.mp h1
        rw [nI_toInt (by decide)] at this
        have : (8 : Int64).toInt = 8 := by decide
        omega
      simp (disch := first | assumption | omega | decide) only [x225_0, x225_1, x225_2, x225_3, x225_4, x225_5, x225_6, x225_7, x225_8, x225_9, x225_10, x225_11, x225_12, x225_13, x225_14, x225_15, x225_16, x225_17, x225_18, x225_19, j_lt, j_ge, a1, a2, ↓reduceIte]
      rfl
end EvM
