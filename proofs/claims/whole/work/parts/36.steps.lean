/-! a step is saved: the class's round of rows against the reference's shifted list -/
def svn (A : Nat → Nat) : Nat := if A 4 = 30 then 29 else A 4
def svA (A : Nat → Nat) : Nat → Nat := fun k =>
  if k = 4 then svn A + 1
  else if 119 ≤ k ∧ k < 119 + 55 * svn A then (if A 4 = 30 then A (k + 55) else A k)
  else if k = 119 + 55 * svn A then A 1
  else if 119 + 55 * svn A < k ∧ k < 119 + 55 * svn A + 25 then A (8 + (k - (119 + 55 * svn A + 1)))
  else if 119 + 55 * svn A + 25 ≤ k ∧ k < 119 + 55 * svn A + 55 then A (1769 + (k - (119 + 55 * svn A + 25)))
  else A k
theorem svn_lt {A : Nat → Nat} (w : A 4 ≤ 30) : svn A < 30 := by
  unfold svn
  split <;> omega
theorem sv_4 {A : Nat → Nat} : svA A 4 = svn A + 1 := if_pos rfl
theorem sv_o {A : Nat → Nat} (w : A 4 ≤ 30) {k : Nat} (h : (k < 119 ∧ k ≠ 4) ∨ 1769 ≤ k) : svA A k = A k := by
  have := svn_lt w
  unfold svA
  rw [if_neg (by omega), if_neg (by omega), if_neg (by omega), if_neg (by omega), if_neg (by omega)]
theorem sv_r {A : Nat → Nat} {j k : Nat} (hj : j < svn A) (hk : k < 55) : svA A (119 + 55 * j + k) = A (119 + 55 * (if A 4 = 30 then j + 1 else j) + k) := by
  unfold svA
  rw [if_neg (by omega), if_pos (by omega)]
  split
  · congr 1
    omega
  · rfl
theorem sv_x {A : Nat → Nat} : svA A (119 + 55 * svn A) = A 1 := by
  unfold svA
  rw [if_neg (by omega), if_neg (by omega), if_pos rfl]
theorem sv_a {A : Nat → Nat} {k : Nat} (hk : k < 24) : svA A (119 + 55 * svn A + 1 + k) = A (8 + k) := by
  unfold svA
  rw [if_neg (by omega), if_neg (by omega), if_neg (by omega), if_pos (by omega)]
  congr 1
  omega
theorem sv_b {A : Nat → Nat} {k : Nat} (hk : k < 30) : svA A (119 + 55 * svn A + 25 + k) = A (1769 + k) := by
  unfold svA
  rw [if_neg (by omega), if_neg (by omega), if_neg (by omega), if_neg (by omega), if_pos (by omega)]
  congr 1
  omega
theorem sv_W {A : Nat → Nat} (w : Wf A) : Wf (svA A) := by
  have w4 : A 4 ≤ 30 := w.1.2.2.2.2.1
  have fA : ∀ k, (k < 119 ∧ k ≠ 4) ∨ 1769 ≤ k → svA A k = A k := fun k hk => sv_o w4 hk
  have hn := svn_lt w4
  refine ⟨?_, Wf2_c (fun k hk => fA k (by omega)) w.2.1, Wf3_c (fun k hk => fA k (by omega)) w.1.1 w.2.2.1, Wf4_c (fun k hk => fA k (by omega)) w.1 w.2.2.2.1, ?_⟩
  · obtain ⟨v0, v1, v2, v3, -, v5⟩ := w.1
    unfold Wf1
    rw [sv_4, fA 0 (by omega), fA 1 (by omega), fA 2 (by omega), fA 3 (by omega), fA 5 (by omega), fA 6 (by omega), fA 7 (by omega), fA 8 (by omega), fA 9 (by omega), fA 10 (by omega), fA 11 (by omega)]
    exact ⟨v0, v1, v2, v3, by omega, v5⟩
  · intro j hj
    rw [sv_4] at hj
    by_cases e : j = svn A
    · subst e
      obtain ⟨v0, v1, v2, v3, v4, v5, v6, v7, v8, v9, v10, v11⟩ := w.1
      obtain ⟨u1, u2, u3, u4, u5, u6, u7⟩ := w.2.1
      refine ⟨?_, ?_, ?_, ?_, ?_, ?_, ?_, ?_, ?_⟩
      · rw [sv_x, fA 1 (by omega)]; exact Nat.le_refl _
      · rw [show 119 + 55 * svn A + 1 = 119 + 55 * svn A + 1 + 0 by omega, sv_a (by omega)]; exact v8
      · rw [show 119 + 55 * svn A + 2 = 119 + 55 * svn A + 1 + 1 by omega, sv_a (by omega)]; exact v9
      · rw [show 119 + 55 * svn A + 3 = 119 + 55 * svn A + 1 + 2 by omega, sv_a (by omega)]; exact v10
      · rw [show 119 + 55 * svn A + 4 = 119 + 55 * svn A + 1 + 3 by omega, sv_a (by omega)]; exact v11
      · intro h hh
        rw [show 119 + 55 * svn A + 5 + h = 119 + 55 * svn A + 1 + (4 + h) by omega, sv_a (by omega), sv_x, show 8 + (4 + h) = 12 + h by omega]
        exact u1 h hh
      · intro h hh
        rw [show 119 + 55 * svn A + 13 + h = 119 + 55 * svn A + 1 + (12 + h) by omega, sv_a (by omega), show 8 + (12 + h) = 20 + h by omega]
        exact u2 h hh
      · intro h hh
        rw [show 119 + 55 * svn A + 21 + h = 119 + 55 * svn A + 1 + (20 + h) by omega, sv_a (by omega), show 8 + (20 + h) = 28 + h by omega]
        exact u4 h hh
      · intro h hh
        rw [sv_b hh]
        exact u7 h hh
    · have hj2 : j < svn A := by omega
      refine Wrow_c (A := A) (x := 119 + 55 * (if A 4 = 30 then j + 1 else j)) (by rw [fA 1 (by omega)]; exact Nat.le_refl _) (fun k hk => sv_r hj2 hk) (w.2.2.2.2 _ ?_)
      unfold svn at hj2
      split at hj2 <;> rename_i h4
      · rw [if_pos h4]; omega
      · rw [if_neg h4]; omega
theorem cp_g {I : Nat → Nat → Int32} {c0 c1 sp dp j : Nat} : uI (uC I c0 c1 sp dp j) c1 (dp + j) (I c0 (sp + j)) = uC I c0 c1 sp dp (j + 1) := by
  funext c k
  unfold uI uC
  by_cases h1 : c = c1 ∧ k = dp + j
  · rw [if_pos h1, if_pos (by omega), h1.2, Nat.add_sub_cancel_left]
  · rw [if_neg h1]
    by_cases h2 : c = c1 ∧ dp ≤ k ∧ k < dp + j
    · rw [if_pos h2, if_pos (by omega)]
    · rw [if_neg h2, if_neg (by omega)]
theorem cp_z {I : Nat → Nat → Int32} {c0 c1 sp dp : Nat} : uC I c0 c1 sp dp 0 = I := by
  funext c k
  exact if_neg (by omega)
section Steps
variable {sc : Sc} {d : Nat} {I : Nat → Nat → Int32} {J : Nat → Nat → Int64} {T : Option Nat} {A : Nat → Nat}
theorem sp_keepM_c {n : Nat} {u : Option Value} {l1 : Option Value} {Q : Option Value → Mm → Prop} (hn : n < 30) (e : I 90 4 = nI n) : Rn sc d 241 33 [some (.ref 89), l1, u] [] (K0, I, J, R1 T) Q = Q none (K0, uI (uC (uC (uI I 90 (119 + 55 * n) (I 90 1)) 90 90 8 (119 + 55 * n + 1) 24) 90 90 1769 (119 + 55 * n + 25) 30) 90 4 (nI (n + 1)), J, R1 T) := by
  obtain ⟨I1, e1⟩ : ∃ X, X = uI I 90 (119 + 55 * n) (I 90 1) := ⟨_, rfl⟩
  have f1 : ∀ k, k < 119 ∨ 1769 ≤ k → I1 90 k = I 90 k := fun k hk => by rw [e1, uI_n (by omega)]
  rw [← e1]
  have h2 := iter0 (fun j => Rn sc d 241 52 [some (.ref 89), some (.int (nI (119 + 55 * n))), some (.int (nI j))] [] (K0, uC I1 90 90 8 (119 + 55 * n + 1) j, J, R1 T) Q) 24 (by
    intro j hj
    show Rn _ _ _ _ _ _ _ _ = Rn _ _ _ _ _ _ _ _
    rw [x241_52]
    simp (disch := first | assumption | omega | decide) only [x241_0, x241_1, x241_2, x241_3, x241_4, x241_5, x241_6, x241_7, x241_9, x241_10, x241_11, x241_12, x241_13, x241_14, x241_15, x241_16, x241_17, x241_18, x241_19, x241_20, x241_21, x241_22, x241_23, x241_24, x241_25, x241_26, x241_27, x241_28, x241_29, x241_30, x241_31, x241_32, x241_33, x241_34, x241_35, x241_36, x241_37, x241_38, x241_39, x241_40, x241_41, x241_42, x241_43, x241_44, x241_45, x241_46, x241_47, x241_48, x241_49, x241_50, x241_51, x241_53, x241_54, x241_55, x241_56, x241_57, x241_58, x241_59, x241_60, x241_61, x241_62, x241_63, x241_64, x241_65, x241_66, x241_67, x241_68, x241_69, x241_70, x241_71, x241_72, x241_74, x241_75, x241_76, x241_77, x241_78, x241_79, x241_80, x241_81, x241_82, x241_83, x241_84, x241_85, x241_86, x241_87, x241_88, x241_89, x241_90, x241_91, x241_92, x241_93, x241_94, x241_95, x241_96, x241_97, x241_98, x241_99, x241_100, x241_101, x241_102, ↓reduceIte, Option.toList, List.nil_append, List.cons_append, nI_add, pk_mul, n_and, n_or, n_xor, nI_leI, nI_ltI, nI_eq, n_z, uI_s, uI_n, bI_n0, bI_n1, bT, bF, if_true, if_false, not_true, not_false_eq_true, pk_div, pk_rem, Nat.reduceEqDiff, Nat.reduceLeDiff, Nat.reduceLT, Nat.reduceAdd, Nat.reduceMul, Nat.reduceSub, Nat.not_lt_zero, Nat.zero_le, reduceCtorEq, ite_self, n_rem, and_self, and_true, true_and, and_false, false_and, Nat.not_le.mpr hj, uC_n, cp_g])
  obtain ⟨I2, e2⟩ : ∃ X, X = uC I1 90 90 8 (119 + 55 * n + 1) 24 := ⟨_, rfl⟩
  have h3 := iter0 (fun j => Rn sc d 241 73 [some (.ref 89), some (.int (nI (119 + 55 * n))), some (.int (nI j))] [] (K0, uC I2 90 90 1769 (119 + 55 * n + 25) j, J, R1 T) Q) 30 (by
    intro j hj
    show Rn _ _ _ _ _ _ _ _ = Rn _ _ _ _ _ _ _ _
    rw [x241_73]
    simp (disch := first | assumption | omega | decide) only [x241_0, x241_1, x241_2, x241_3, x241_4, x241_5, x241_6, x241_7, x241_9, x241_10, x241_11, x241_12, x241_13, x241_14, x241_15, x241_16, x241_17, x241_18, x241_19, x241_20, x241_21, x241_22, x241_23, x241_24, x241_25, x241_26, x241_27, x241_28, x241_29, x241_30, x241_31, x241_32, x241_33, x241_34, x241_35, x241_36, x241_37, x241_38, x241_39, x241_40, x241_41, x241_42, x241_43, x241_44, x241_45, x241_46, x241_47, x241_48, x241_49, x241_50, x241_51, x241_53, x241_54, x241_55, x241_56, x241_57, x241_58, x241_59, x241_60, x241_61, x241_62, x241_63, x241_64, x241_65, x241_66, x241_67, x241_68, x241_69, x241_70, x241_71, x241_72, x241_74, x241_75, x241_76, x241_77, x241_78, x241_79, x241_80, x241_81, x241_82, x241_83, x241_84, x241_85, x241_86, x241_87, x241_88, x241_89, x241_90, x241_91, x241_92, x241_93, x241_94, x241_95, x241_96, x241_97, x241_98, x241_99, x241_100, x241_101, x241_102, ↓reduceIte, Option.toList, List.nil_append, List.cons_append, nI_add, pk_mul, n_and, n_or, n_xor, nI_leI, nI_ltI, nI_eq, n_z, uI_s, uI_n, bI_n0, bI_n1, bT, bF, if_true, if_false, not_true, not_false_eq_true, pk_div, pk_rem, Nat.reduceEqDiff, Nat.reduceLeDiff, Nat.reduceLT, Nat.reduceAdd, Nat.reduceMul, Nat.reduceSub, Nat.not_lt_zero, Nat.zero_le, reduceCtorEq, ite_self, n_rem, and_self, and_true, true_and, and_false, false_and, Nat.not_le.mpr hj, uC_n, (rfl : 119 + 55 * n + 1 + 24 = 119 + 55 * n + 25), cp_g])
  rw [cp_z] at h2 h3
  simp (disch := first | assumption | omega | decide) only [x241_0, x241_1, x241_2, x241_3, x241_4, x241_5, x241_6, x241_7, x241_9, x241_10, x241_11, x241_12, x241_13, x241_14, x241_15, x241_16, x241_17, x241_18, x241_19, x241_20, x241_21, x241_22, x241_23, x241_24, x241_25, x241_26, x241_27, x241_28, x241_29, x241_30, x241_31, x241_32, x241_33, x241_34, x241_35, x241_36, x241_37, x241_38, x241_39, x241_40, x241_41, x241_42, x241_43, x241_44, x241_45, x241_46, x241_47, x241_48, x241_49, x241_50, x241_51, x241_53, x241_54, x241_55, x241_56, x241_57, x241_58, x241_59, x241_60, x241_61, x241_62, x241_63, x241_64, x241_65, x241_66, x241_67, x241_68, x241_69, x241_70, x241_71, x241_72, x241_74, x241_75, x241_76, x241_77, x241_78, x241_79, x241_80, x241_81, x241_82, x241_83, x241_84, x241_85, x241_86, x241_87, x241_88, x241_89, x241_90, x241_91, x241_92, x241_93, x241_94, x241_95, x241_96, x241_97, x241_98, x241_99, x241_100, x241_101, x241_102, ↓reduceIte, Option.toList, List.nil_append, List.cons_append, nI_add, pk_mul, n_and, n_or, n_xor, nI_leI, nI_ltI, nI_eq, n_z, uI_s, uI_n, bI_n0, bI_n1, bT, bF, if_true, if_false, not_true, not_false_eq_true, pk_div, pk_rem, Nat.reduceEqDiff, Nat.reduceLeDiff, Nat.reduceLT, Nat.reduceAdd, Nat.reduceMul, Nat.reduceSub, Nat.not_lt_zero, Nat.zero_le, reduceCtorEq, ite_self, n_rem, and_self, and_true, true_and, and_false, false_and, e, e1.symm]
  refine Eq.trans h2 ?_
  show Rn _ _ _ _ _ _ _ _ = _
  rw [← e2, x241_52]
  simp (disch := first | assumption | omega | decide) only [x241_0, x241_1, x241_2, x241_3, x241_4, x241_5, x241_6, x241_7, x241_9, x241_10, x241_11, x241_12, x241_13, x241_14, x241_15, x241_16, x241_17, x241_18, x241_19, x241_20, x241_21, x241_22, x241_23, x241_24, x241_25, x241_26, x241_27, x241_28, x241_29, x241_30, x241_31, x241_32, x241_33, x241_34, x241_35, x241_36, x241_37, x241_38, x241_39, x241_40, x241_41, x241_42, x241_43, x241_44, x241_45, x241_46, x241_47, x241_48, x241_49, x241_50, x241_51, x241_53, x241_54, x241_55, x241_56, x241_57, x241_58, x241_59, x241_60, x241_61, x241_62, x241_63, x241_64, x241_65, x241_66, x241_67, x241_68, x241_69, x241_70, x241_71, x241_72, x241_74, x241_75, x241_76, x241_77, x241_78, x241_79, x241_80, x241_81, x241_82, x241_83, x241_84, x241_85, x241_86, x241_87, x241_88, x241_89, x241_90, x241_91, x241_92, x241_93, x241_94, x241_95, x241_96, x241_97, x241_98, x241_99, x241_100, x241_101, x241_102, ↓reduceIte, Option.toList, List.nil_append, List.cons_append, nI_add, pk_mul, n_and, n_or, n_xor, nI_leI, nI_ltI, nI_eq, n_z, uI_s, uI_n, bI_n0, bI_n1, bT, bF, if_true, if_false, not_true, not_false_eq_true, pk_div, pk_rem, Nat.reduceEqDiff, Nat.reduceLeDiff, Nat.reduceLT, Nat.reduceAdd, Nat.reduceMul, Nat.reduceSub, Nat.not_lt_zero, Nat.zero_le, reduceCtorEq, ite_self, n_rem, and_self, and_true, true_and, and_false, false_and]
  refine Eq.trans h3 ?_
  show Rn _ _ _ _ _ _ _ _ = _
  have e4 : I2 90 4 = nI n := by rw [e2, uC_n (by omega), f1 _ (by omega), e]
  rw [x241_73]
  simp (disch := first | assumption | omega | decide) only [x241_0, x241_1, x241_2, x241_3, x241_4, x241_5, x241_6, x241_7, x241_9, x241_10, x241_11, x241_12, x241_13, x241_14, x241_15, x241_16, x241_17, x241_18, x241_19, x241_20, x241_21, x241_22, x241_23, x241_24, x241_25, x241_26, x241_27, x241_28, x241_29, x241_30, x241_31, x241_32, x241_33, x241_34, x241_35, x241_36, x241_37, x241_38, x241_39, x241_40, x241_41, x241_42, x241_43, x241_44, x241_45, x241_46, x241_47, x241_48, x241_49, x241_50, x241_51, x241_53, x241_54, x241_55, x241_56, x241_57, x241_58, x241_59, x241_60, x241_61, x241_62, x241_63, x241_64, x241_65, x241_66, x241_67, x241_68, x241_69, x241_70, x241_71, x241_72, x241_74, x241_75, x241_76, x241_77, x241_78, x241_79, x241_80, x241_81, x241_82, x241_83, x241_84, x241_85, x241_86, x241_87, x241_88, x241_89, x241_90, x241_91, x241_92, x241_93, x241_94, x241_95, x241_96, x241_97, x241_98, x241_99, x241_100, x241_101, x241_102, ↓reduceIte, Option.toList, List.nil_append, List.cons_append, nI_add, pk_mul, n_and, n_or, n_xor, nI_leI, nI_ltI, nI_eq, n_z, uI_s, uI_n, bI_n0, bI_n1, bT, bF, if_true, if_false, not_true, not_false_eq_true, pk_div, pk_rem, Nat.reduceEqDiff, Nat.reduceLeDiff, Nat.reduceLT, Nat.reduceAdd, Nat.reduceMul, Nat.reduceSub, Nat.not_lt_zero, Nat.zero_le, reduceCtorEq, ite_self, n_rem, and_self, and_true, true_and, and_false, false_and, uC_n, e4]
theorem sp_keepM {u1 u2 : Option Value} (w : Wf A) (m : AtM I 90 A) : ∃ I', (∀ c k, c ≠ 90 → I' c k = I c k) ∧ AtM I' 90 (svA A) ∧ ∀ Q, Rn sc d 241 0 [some (.ref 89), u1, u2] [] (K0, I, J, R1 T) Q = Q none (K0, I', J, R1 T) := by
  have w4 : A 4 ≤ 30 := w.1.2.2.2.2.1
  have hn := svn_lt w4
  have m' : ∀ k, k < 1799 → I 90 k = nI (A k) := m
  by_cases h4 : A 4 = 30
  · have en : svn A = 29 := if_pos h4
    have h1 := fun Q => iter0 (fun j => Rn sc d 241 8 [some (.ref 89), some (.int (nI j)), u2] [] (K0, uC I 90 90 174 119 j, J, R1 T) Q) 1595 (by
      intro j hj
      show Rn _ _ _ _ _ _ _ _ = Rn _ _ _ _ _ _ _ _
      rw [x241_8]
      simp (disch := first | assumption | omega | decide) only [x241_0, x241_1, x241_2, x241_3, x241_4, x241_5, x241_6, x241_7, x241_9, x241_10, x241_11, x241_12, x241_13, x241_14, x241_15, x241_16, x241_17, x241_18, x241_19, x241_20, x241_21, x241_22, x241_23, x241_24, x241_25, x241_26, x241_27, x241_28, x241_29, x241_30, x241_31, x241_32, x241_33, x241_34, x241_35, x241_36, x241_37, x241_38, x241_39, x241_40, x241_41, x241_42, x241_43, x241_44, x241_45, x241_46, x241_47, x241_48, x241_49, x241_50, x241_51, x241_53, x241_54, x241_55, x241_56, x241_57, x241_58, x241_59, x241_60, x241_61, x241_62, x241_63, x241_64, x241_65, x241_66, x241_67, x241_68, x241_69, x241_70, x241_71, x241_72, x241_74, x241_75, x241_76, x241_77, x241_78, x241_79, x241_80, x241_81, x241_82, x241_83, x241_84, x241_85, x241_86, x241_87, x241_88, x241_89, x241_90, x241_91, x241_92, x241_93, x241_94, x241_95, x241_96, x241_97, x241_98, x241_99, x241_100, x241_101, x241_102, ↓reduceIte, Option.toList, List.nil_append, List.cons_append, nI_add, pk_mul, n_and, n_or, n_xor, nI_leI, nI_ltI, nI_eq, n_z, uI_s, uI_n, bI_n0, bI_n1, bT, bF, if_true, if_false, not_true, not_false_eq_true, pk_div, pk_rem, Nat.reduceEqDiff, Nat.reduceLeDiff, Nat.reduceLT, Nat.reduceAdd, Nat.reduceMul, Nat.reduceSub, Nat.not_lt_zero, Nat.zero_le, reduceCtorEq, ite_self, n_rem, and_self, and_true, true_and, and_false, false_and, Nat.not_le.mpr hj, uC_n, cp_g])
    obtain ⟨I1, e1⟩ : ∃ X, X = uI (uC I 90 90 174 119 1595) 90 4 (nI 29) := ⟨_, rfl⟩
    have g4 : I1 90 4 = nI 29 := by rw [e1, uI_s]
    apply Exists.intro
    refine ⟨?f, ?a, fun Q => ?q⟩
    case q =>
      simp (disch := first | assumption | omega | decide) only [x241_0, x241_1, x241_2, x241_3, x241_4, x241_5, x241_6, x241_7, x241_9, x241_10, x241_11, x241_12, x241_13, x241_14, x241_15, x241_16, x241_17, x241_18, x241_19, x241_20, x241_21, x241_22, x241_23, x241_24, x241_25, x241_26, x241_27, x241_28, x241_29, x241_30, x241_31, x241_32, ↓reduceIte, Option.toList, List.nil_append, List.cons_append, nI_add, pk_mul, n_and, n_or, n_xor, nI_leI, nI_ltI, nI_eq, n_z, uI_s, uI_n, bI_n0, bI_n1, bT, bF, if_true, if_false, not_true, not_false_eq_true, pk_div, pk_rem, Nat.reduceEqDiff, Nat.reduceLeDiff, Nat.reduceLT, Nat.reduceAdd, Nat.reduceMul, Nat.reduceSub, Nat.not_lt_zero, Nat.zero_le, reduceCtorEq, ite_self, n_rem, and_self, and_true, true_and, and_false, false_and, m', h4]
      have h1' := h1 Q
      rw [cp_z] at h1'
      refine Eq.trans h1' ?_
      show Rn _ _ _ _ _ _ _ _ = _
      rw [x241_8]
      simp (disch := first | assumption | omega | decide) only [x241_0, x241_1, x241_2, x241_3, x241_4, x241_5, x241_6, x241_7, x241_9, x241_10, x241_11, x241_12, x241_13, x241_14, x241_15, x241_16, x241_17, x241_18, x241_19, x241_20, x241_21, x241_22, x241_23, x241_24, x241_25, x241_26, x241_27, x241_28, x241_29, x241_30, x241_31, x241_32, ↓reduceIte, Option.toList, List.nil_append, List.cons_append, nI_add, pk_mul, n_and, n_or, n_xor, nI_leI, nI_ltI, nI_eq, n_z, uI_s, uI_n, bI_n0, bI_n1, bT, bF, if_true, if_false, not_true, not_false_eq_true, pk_div, pk_rem, Nat.reduceEqDiff, Nat.reduceLeDiff, Nat.reduceLT, Nat.reduceAdd, Nat.reduceMul, Nat.reduceSub, Nat.not_lt_zero, Nat.zero_le, reduceCtorEq, ite_self, n_rem, and_self, and_true, true_and, and_false, false_and, uC_n, m', h4, n_sub, e1.symm]
      exact sp_keepM_c (by decide) g4
    case f =>
      intro c k hc
      rw [uI_n (by omega), uC_n (by omega), uC_n (by omega), uI_n (by omega), e1, uI_n (by omega), uC_n (by omega)]
    case a =>
      intro k hk
      unfold svA
      rw [en]
      by_cases c1 : k = 4
      · rw [if_pos c1, uI_e c1]
      · rw [if_neg c1, uI_n (by omega)]
        by_cases c2 : 119 ≤ k ∧ k < 119 + 55 * 29
        · rw [if_pos c2, if_pos h4, uC_n (by omega), uC_n (by omega), uI_n (by omega), e1, uI_n (by omega), uC_i (by omega), m' _ (by omega)]
          congr 2
          omega
        · rw [if_neg c2]
          by_cases c3 : k = 119 + 55 * 29
          · rw [if_pos c3, uC_n (by omega), uC_n (by omega), uI_e c3, e1, uI_n (by omega), uC_n (by omega), m' _ (by omega)]
          · rw [if_neg c3]
            by_cases c4 : 119 + 55 * 29 < k ∧ k < 119 + 55 * 29 + 25
            · rw [if_pos c4, uC_n (by omega), uC_i (by omega), uI_n (by omega), e1, uI_n (by omega), uC_n (by omega), m' _ (by omega)]
            · rw [if_neg c4]
              by_cases c5 : 119 + 55 * 29 + 25 ≤ k ∧ k < 119 + 55 * 29 + 55
              · rw [if_pos c5, uC_i (by omega), uC_n (by omega), uI_n (by omega), e1, uI_n (by omega), uC_n (by omega), m' _ (by omega)]
              · rw [if_neg c5, uC_n (by omega), uC_n (by omega), uI_n (by omega), e1, uI_n (by omega), uC_n (by omega), m' _ (by omega)]
  · have en : svn A = A 4 := if_neg h4
    apply Exists.intro
    refine ⟨?f, ?a, fun Q => ?q⟩
    case q =>
      simp (disch := first | assumption | omega | decide) only [x241_0, x241_1, x241_2, x241_3, x241_4, x241_5, x241_6, x241_7, x241_9, x241_10, x241_11, x241_12, x241_13, x241_14, x241_15, x241_16, x241_17, x241_18, x241_19, x241_20, x241_21, x241_22, x241_23, x241_24, x241_25, x241_26, x241_27, x241_28, x241_29, x241_30, x241_31, x241_32, ↓reduceIte, Option.toList, List.nil_append, List.cons_append, nI_add, pk_mul, n_and, n_or, n_xor, nI_leI, nI_ltI, nI_eq, n_z, uI_s, uI_n, bI_n0, bI_n1, bT, bF, if_true, if_false, not_true, not_false_eq_true, pk_div, pk_rem, Nat.reduceEqDiff, Nat.reduceLeDiff, Nat.reduceLT, Nat.reduceAdd, Nat.reduceMul, Nat.reduceSub, Nat.not_lt_zero, Nat.zero_le, reduceCtorEq, ite_self, n_rem, and_self, and_true, true_and, and_false, false_and, m', h4]
      exact sp_keepM_c (by omega) (m' 4 (by decide))
    case f =>
      intro c k hc
      rw [uI_n (by omega), uC_n (by omega), uC_n (by omega), uI_n (by omega)]
    case a =>
      intro k hk
      unfold svA
      rw [en]
      by_cases c1 : k = 4
      · rw [if_pos c1, uI_e c1]
      · rw [if_neg c1, uI_n (by omega)]
        by_cases c2 : 119 ≤ k ∧ k < 119 + 55 * A 4
        · rw [if_pos c2, if_neg h4, uC_n (by omega), uC_n (by omega), uI_n (by omega), m' _ (by omega)]
        · rw [if_neg c2]
          by_cases c3 : k = 119 + 55 * A 4
          · rw [if_pos c3, uC_n (by omega), uC_n (by omega), uI_e c3, m' _ (by omega)]
          · rw [if_neg c3]
            by_cases c4 : 119 + 55 * A 4 < k ∧ k < 119 + 55 * A 4 + 25
            · rw [if_pos c4, uC_n (by omega), uC_i (by omega), uI_n (by omega), m' _ (by omega)]
            · rw [if_neg c4]
              by_cases c5 : 119 + 55 * A 4 + 25 ≤ k ∧ k < 119 + 55 * A 4 + 55
              · rw [if_pos c5, uC_i (by omega), uC_n (by omega), uI_n (by omega), m' _ (by omega)]
              · rw [if_neg c5, uC_n (by omega), uC_n (by omega), uI_n (by omega), m' _ (by omega)]
theorem sp_save_c {n f R : Nat} {u2 u3 u4 : Option Value} (eR : R = (f + n) % 30 * 48) (hn : n < 30) (hf : f < 30) (e1 : I 28 1 = nI f) (e2 : I 28 2 = nI n) (t : Twn I 1 2 3 4 5 6 7 8 9 A) (w1 : A 1 ≤ 4) : ∃ I', (∀ c k, c ≠ 28 ∧ c ≠ 29 → I' c k = I c k) ∧ I' 28 1 = nI f ∧ I' 28 2 = nI (n + 1) ∧ (∀ k, k < R ∨ R + 48 ≤ k → I' 29 k = I 29 k) ∧ ((∀ h, h < 8 → I' 29 (R + h) = I 3 h) ∧ (∀ k, k < 4 → I' 29 (R + 8 + k) = I 6 k) ∧ I' 29 (R + 12) = nI (pkN (kpr A) (A 1)) ∧ I' 29 (R + 13) = I 1 10 ∧ I' 29 (R + 14) = I 1 13 ∧ I' 29 (R + 15) = I 1 11 ∧ I' 29 (R + 16) = I 1 12 ∧ I' 29 (R + 17) = I 1 8 ∧ (∀ i, i < 30 → I' 29 (R + 18 + i) = I 9 i)) ∧ ∀ Q, Rn sc d 56 15 [some (.ref 28), some (.ref 1), u2, u3, u4] [] (K0, I, J, R1 T) Q = Q none (K0, I', J, R1 T) := by
  have hm : (f + n) % 30 < 30 := Nat.mod_lt _ (by decide)
  have hR : R + 48 ≤ 1440 := by omega
  obtain ⟨I1, eI⟩ : ∃ X, X = uC (uC (uI I 28 2 (nI (n + 1))) 3 29 0 R 8) 6 29 0 (R + 8) 4 := ⟨_, rfl⟩
  have k1 : I1 1 10 = nI (A 1) := by rw [eI, uC_n (by omega), uC_n (by omega), uI_n (by omega)]; exact tw_rumours t
  have k2 : ∀ r, r < A 1 → I1 8 r = nI (kpr A r) := fun r hr => by rw [eI, uC_n (by omega), uC_n (by omega), uI_n (by omega)]; exact tw_keepers t hr
  have h1 := fun Q => iter0 (fun j => Rn sc d 56 53 [some (.ref 28), some (.ref 1), some (.int (nI R)), some (.int (nI (pkN (kpr A) j))), some (.int (nI j))] [] (K0, I1, J, R1 T) Q) (A 1) (by
    intro j hj
    show Rn _ _ _ _ _ _ _ _ = Rn _ _ _ _ _ _ _ _
    have l : kpr A j < 256 := kpr_lt
    have l2 : kpr A j * 2 ^ (j * 8) < 2 ^ 32 := by
      have := Nat.pow_le_pow_right (show 0 < 2 by decide) (show j * 8 ≤ 24 by omega)
      have := Nat.mul_le_mul (show kpr A j ≤ 255 by omega) this
      omega
    rw [x56_53, pkN]
    simp (disch := first | assumption | omega | decide) only [x56_0, x56_1, x56_2, x56_3, x56_4, x56_5, x56_6, x56_7, x56_8, x56_9, x56_10, x56_11, x56_12, x56_13, x56_14, x56_15, x56_16, x56_17, x56_18, x56_19, x56_20, x56_21, x56_22, x56_23, x56_24, x56_25, x56_26, x56_27, x56_28, x56_29, x56_30, x56_31, x56_32, x56_33, x56_34, x56_35, x56_36, x56_37, x56_38, x56_39, x56_40, x56_41, x56_42, x56_43, x56_44, x56_45, x56_46, x56_47, x56_48, x56_49, x56_50, x56_51, x56_52, x56_54, x56_55, x56_56, x56_57, x56_58, x56_59, x56_60, x56_61, x56_62, x56_63, x56_64, x56_65, x56_66, x56_67, x56_68, x56_69, x56_70, x56_71, x56_72, x56_73, x56_74, x56_75, x56_76, x56_77, x56_78, x56_79, x56_80, x56_81, x56_82, x56_83, x56_84, x56_85, x56_86, x56_87, x56_88, x56_89, x56_90, x56_91, x56_92, x56_93, x56_94, x56_95, x56_96, x56_97, x56_98, x56_99, x56_100, x56_101, x56_102, x56_103, x56_104, x56_105, x56_106, x56_107, x56_108, x56_109, x56_110, x56_111, x56_112, x56_113, x56_114, x56_115, x56_116, x56_117, x56_118, x56_119, x56_120, x56_121, x56_122, x56_123, x56_124, x56_125, x56_126, x56_127, ↓reduceIte, Option.toList, List.nil_append, List.cons_append, nI_add, pk_mul, n_and, n_or, n_xor, nI_leI, nI_ltI, nI_eq, n_z, uI_s, uI_n, bI_n0, bI_n1, bT, bF, if_true, if_false, not_true, not_false_eq_true, pk_div, pk_rem, Nat.reduceEqDiff, Nat.reduceLeDiff, Nat.reduceLT, Nat.reduceAdd, Nat.reduceMul, Nat.reduceSub, Nat.not_lt_zero, Nat.zero_le, reduceCtorEq, ite_self, n_rem, and_self, and_true, true_and, and_false, false_and, k1, k2 j hj, Nat.not_le.mpr hj, n_shl (show j * 8 < 32 by omega) l2])
  apply Exists.intro
  refine ⟨?f, ?a, ?b, ?o, ?r, fun Q => ?q⟩
  case q =>
    simp (disch := first | assumption | omega | decide) only [x56_0, x56_1, x56_2, x56_3, x56_4, x56_5, x56_6, x56_7, x56_8, x56_9, x56_10, x56_11, x56_12, x56_13, x56_14, x56_15, x56_16, x56_17, x56_18, x56_19, x56_20, x56_21, x56_22, x56_23, x56_24, x56_25, x56_26, x56_27, x56_28, x56_29, x56_30, x56_31, x56_32, x56_33, x56_34, x56_35, x56_36, x56_37, x56_38, x56_39, x56_40, x56_41, x56_42, x56_43, x56_44, x56_45, x56_46, x56_47, x56_48, x56_49, x56_50, x56_51, x56_52, x56_54, x56_55, x56_56, x56_57, x56_58, x56_59, x56_60, x56_61, x56_62, x56_63, x56_64, x56_65, x56_66, x56_67, x56_68, x56_69, x56_70, x56_71, x56_72, x56_73, x56_74, x56_75, x56_76, x56_77, x56_78, x56_79, x56_80, x56_81, x56_82, x56_83, x56_84, x56_85, x56_86, x56_87, x56_88, x56_89, x56_90, x56_91, x56_92, x56_93, x56_94, x56_95, x56_96, x56_97, x56_98, x56_99, x56_100, x56_101, x56_102, x56_103, x56_104, x56_105, x56_106, x56_107, x56_108, x56_109, x56_110, x56_111, x56_112, x56_113, x56_114, x56_115, x56_116, x56_117, x56_118, x56_119, x56_120, x56_121, x56_122, x56_123, x56_124, x56_125, x56_126, x56_127, ↓reduceIte, Option.toList, List.nil_append, List.cons_append, nI_add, pk_mul, n_and, n_or, n_xor, nI_leI, nI_ltI, nI_eq, n_z, uI_s, uI_n, bI_n0, bI_n1, bT, bF, if_true, if_false, not_true, not_false_eq_true, pk_div, pk_rem, Nat.reduceEqDiff, Nat.reduceLeDiff, Nat.reduceLT, Nat.reduceAdd, Nat.reduceMul, Nat.reduceSub, Nat.not_lt_zero, Nat.zero_le, reduceCtorEq, ite_self, n_rem, and_self, and_true, true_and, and_false, false_and, e1, e2, eR.symm, eI.symm]
    refine Eq.trans (h1 Q) ?_
    show Rn _ _ _ _ _ _ _ _ = _
    rw [x56_53]
    simp (disch := first | assumption | omega | decide) only [x56_0, x56_1, x56_2, x56_3, x56_4, x56_5, x56_6, x56_7, x56_8, x56_9, x56_10, x56_11, x56_12, x56_13, x56_14, x56_15, x56_16, x56_17, x56_18, x56_19, x56_20, x56_21, x56_22, x56_23, x56_24, x56_25, x56_26, x56_27, x56_28, x56_29, x56_30, x56_31, x56_32, x56_33, x56_34, x56_35, x56_36, x56_37, x56_38, x56_39, x56_40, x56_41, x56_42, x56_43, x56_44, x56_45, x56_46, x56_47, x56_48, x56_49, x56_50, x56_51, x56_52, x56_54, x56_55, x56_56, x56_57, x56_58, x56_59, x56_60, x56_61, x56_62, x56_63, x56_64, x56_65, x56_66, x56_67, x56_68, x56_69, x56_70, x56_71, x56_72, x56_73, x56_74, x56_75, x56_76, x56_77, x56_78, x56_79, x56_80, x56_81, x56_82, x56_83, x56_84, x56_85, x56_86, x56_87, x56_88, x56_89, x56_90, x56_91, x56_92, x56_93, x56_94, x56_95, x56_96, x56_97, x56_98, x56_99, x56_100, x56_101, x56_102, x56_103, x56_104, x56_105, x56_106, x56_107, x56_108, x56_109, x56_110, x56_111, x56_112, x56_113, x56_114, x56_115, x56_116, x56_117, x56_118, x56_119, x56_120, x56_121, x56_122, x56_123, x56_124, x56_125, x56_126, x56_127, ↓reduceIte, Option.toList, List.nil_append, List.cons_append, nI_add, pk_mul, n_and, n_or, n_xor, nI_leI, nI_ltI, nI_eq, n_z, uI_s, uI_n, bI_n0, bI_n1, bT, bF, if_true, if_false, not_true, not_false_eq_true, pk_div, pk_rem, Nat.reduceEqDiff, Nat.reduceLeDiff, Nat.reduceLT, Nat.reduceAdd, Nat.reduceMul, Nat.reduceSub, Nat.not_lt_zero, Nat.zero_le, reduceCtorEq, ite_self, n_rem, and_self, and_true, true_and, and_false, false_and, k1, Nat.le_refl]
    rfl
  case f =>
    intro c k hc
    rw [eI]
    simp (disch := first | assumption | omega | decide) only [uI_n, uC_n]
  case a =>
    rw [eI]
    simp (disch := first | assumption | omega | decide) only [uI_n, uC_n, e1]
  case b =>
    rw [eI]
    simp (disch := first | assumption | omega | decide) only [uI_n, uC_n, uI_s]
  case o =>
    intro k hk
    rw [eI]
    simp (disch := first | assumption | omega | decide) only [uI_n, uC_n]
  case r =>
    rw [eI]
    refine ⟨?_, ?_, ?_, ?_, ?_, ?_, ?_, ?_, ?_⟩
    · intro h hh
      simp (disch := first | assumption | omega | decide) only [uI_n, uC_n, uC_i, Nat.zero_add, Nat.add_sub_cancel_left]
    · intro h hh
      simp (disch := first | assumption | omega | decide) only [uI_n, uC_n, uC_i, Nat.zero_add, Nat.add_sub_cancel_left]
    · simp (disch := first | assumption | omega | decide) only [uI_n, uC_n, uI_s]
    · simp (disch := first | assumption | omega | decide) only [uI_n, uC_n, uI_s, tw_rumours t]
    · simp (disch := first | assumption | omega | decide) only [uI_n, uC_n, uI_s]
    · simp (disch := first | assumption | omega | decide) only [uI_n, uC_n, uI_s]
    · simp (disch := first | assumption | omega | decide) only [uI_n, uC_n, uI_s]
    · simp (disch := first | assumption | omega | decide) only [uI_n, uC_n, uI_s]
    · intro h hh
      simp (disch := first | assumption | omega | decide) only [uI_n, uC_n, uC_i, Nat.zero_add, Nat.add_sub_cancel_left]
theorem sp_save {u2 u3 u4 : Option Value} (w : Wf A) (t : Twn I 1 2 3 4 5 6 7 8 9 A) (s : Stw I 28 29 A) : ∃ I', (∀ c k, c ≠ 28 ∧ c ≠ 29 → I' c k = I c k) ∧ Stw I' 28 29 (svA A) ∧ ∀ Q, Rn sc d 56 0 [some (.ref 28), some (.ref 1), u2, u3, u4] [] (K0, I, J, R1 T) Q = Q none (K0, I', J, R1 T) := by
  have w4 : A 4 ≤ 30 := w.1.2.2.2.2.1
  have w1 : A 1 ≤ 4 := w.1.2.1
  have hn := svn_lt w4
  obtain ⟨f, hf, e1, e2, s⟩ := s
  obtain ⟨I0, f0, g0, hf0, k1, k2, q0⟩ : ∃ I0 f0, (∀ c k, c ≠ 28 → I0 c k = I c k) ∧ (f0 = (if A 4 = 30 then (f + 1) % 30 else f)) ∧ I0 28 1 = nI f0 ∧ I0 28 2 = nI (svn A) ∧ ∀ Q, Rn sc d 56 0 [some (.ref 28), some (.ref 1), u2, u3, u4] [] (K0, I, J, R1 T) Q = Rn sc d 56 15 [some (.ref 28), some (.ref 1), u2, u3, u4] [] (K0, I0, J, R1 T) Q := by
    by_cases h4 : A 4 = 30
    · refine ⟨uI (uI I 28 1 (nI ((f + 1) % 30))) 28 2 (nI 29), (f + 1) % 30, fun c k hc => ?_, ?_, ?_, ?_, fun Q => ?_⟩
      · rw [uI_n (by omega), uI_n (by omega)]
      · rw [if_pos h4]
      · rw [uI_n (by omega), uI_s]
      · rw [uI_s, show svn A = 29 from if_pos h4]
      · simp (disch := first | assumption | omega | decide) only [x56_0, x56_1, x56_2, x56_3, x56_4, x56_5, x56_6, x56_7, x56_8, x56_9, x56_10, x56_11, x56_12, x56_13, x56_14, ↓reduceIte, Option.toList, List.nil_append, List.cons_append, nI_add, pk_mul, n_and, n_or, n_xor, nI_leI, nI_ltI, nI_eq, n_z, uI_s, uI_n, bI_n0, bI_n1, bT, bF, if_true, if_false, not_true, not_false_eq_true, pk_div, pk_rem, Nat.reduceEqDiff, Nat.reduceLeDiff, Nat.reduceLT, Nat.reduceAdd, Nat.reduceMul, Nat.reduceSub, Nat.not_lt_zero, Nat.zero_le, reduceCtorEq, ite_self, n_rem, and_self, and_true, true_and, and_false, false_and, e1, e2, h4]
    · have h5 : A 4 < 30 := by omega
      refine ⟨I, f, fun c k hc => rfl, ?_, e1, ?_, fun Q => ?_⟩
      · rw [if_neg h4]
      · rw [show svn A = A 4 from if_neg h4]
        exact e2
      · simp (disch := first | assumption | omega | decide) only [x56_0, x56_1, x56_2, x56_3, x56_4, x56_5, x56_6, x56_7, x56_8, x56_9, x56_10, x56_11, x56_12, x56_13, x56_14, ↓reduceIte, Option.toList, List.nil_append, List.cons_append, nI_add, pk_mul, n_and, n_or, n_xor, nI_leI, nI_ltI, nI_eq, n_z, uI_s, uI_n, bI_n0, bI_n1, bT, bF, if_true, if_false, not_true, not_false_eq_true, pk_div, pk_rem, Nat.reduceEqDiff, Nat.reduceLeDiff, Nat.reduceLT, Nat.reduceAdd, Nat.reduceMul, Nat.reduceSub, Nat.not_lt_zero, Nat.zero_le, reduceCtorEq, ite_self, n_rem, and_self, and_true, true_and, and_false, false_and, e1, e2, h5]
  have hf0' : f0 < 30 := by
    rw [hf0]
    split <;> omega
  obtain ⟨I', fr, a1, a2, o, ⟨r1, r2, r3, r4, r5, r6, r7, r8, r9⟩, q⟩ := sp_save_c (sc := sc) (d := d) (J := J) (T := T) (u2 := u2) (u3 := u3) (u4 := u4) (n := svn A) rfl hn hf0' k1 k2 (Twn_c t (fun c k hc => g0 c k (by omega)) (fun _ _ _ _ => rfl) ⟨w.1.1, w1⟩) w1
  refine ⟨I', fun c k hc => (fr c k hc).trans (g0 c k hc.1), ⟨f0, hf0', a1, by rw [sv_4]; exact a2, ?_⟩, fun Q => (q0 Q).trans (q Q)⟩
  intro j hj
  rw [sv_4] at hj
  have fA : ∀ k, (k < 119 ∧ k ≠ 4) ∨ 1769 ≤ k → svA A k = A k := fun k hk => sv_o w4 hk
  by_cases ej : j = svn A
  · subst ej
    rw [Nat.mul_comm]
    refine ⟨?_, ?_, ?_, ?_, ?_, ?_, ?_, ?_, ?_⟩
    · intro h hh
      rw [show 119 + 55 * svn A + 13 + h = 119 + 55 * svn A + 1 + (12 + h) by omega, sv_a (by omega), show 8 + (12 + h) = 20 + h by omega, r1 h hh, g0 _ _ (by omega)]
      exact tw_income t hh
    · intro k hk
      rw [sv_x] at hk
      rw [show 119 + 55 * svn A + 21 + k = 119 + 55 * svn A + 1 + (20 + k) by omega, sv_a (by omega), show 8 + (20 + k) = 28 + k by omega, r2 k (by omega), g0 _ _ (by omega)]
      exact tw_purse t hk
    · rw [sv_x, r3]
      congr 1
      refine pkN_c _ (fun r hr => kpN_c _ (fun h hh => ?_))
      rw [show 119 + 55 * svn A + 5 + h = 119 + 55 * svn A + 1 + (4 + h) by omega, sv_a (by omega), show 8 + (4 + h) = 12 + h by omega]
    · rw [sv_x, r4, g0 _ _ (by omega)]
      exact tw_rumours t
    · rw [show 119 + 55 * svn A + 3 = 119 + 55 * svn A + 1 + 2 by omega, sv_a (by omega), r5, g0 _ _ (by omega)]
      exact tw_paid t
    · rw [show 119 + 55 * svn A + 1 = 119 + 55 * svn A + 1 + 0 by omega, sv_a (by omega), r6, g0 _ _ (by omega)]
      exact tw_day t
    · rw [show 119 + 55 * svn A + 2 = 119 + 55 * svn A + 1 + 1 by omega, sv_a (by omega), r7, g0 _ _ (by omega)]
      exact tw_x t
    · rw [show 119 + 55 * svn A + 4 = 119 + 55 * svn A + 1 + 3 by omega, sv_a (by omega), r8, g0 _ _ (by omega)]
      exact tw_written t
    · intro i hi
      rw [sv_b hi, r9 i hi, g0 _ _ (by omega)]
      exact tw_pages t hi
  · have hj2 : j < svn A := by omega
    obtain ⟨j', ej', hj', hm⟩ : ∃ j', j' = (if A 4 = 30 then j + 1 else j) ∧ j' < A 4 ∧ (f0 + j) % 30 = (f + j') % 30 := by
      refine ⟨_, rfl, ?_⟩
      rw [hf0]
      unfold svn at hj2
      by_cases h4 : A 4 = 30
      · rw [if_pos h4] at hj2 ⊢
        rw [if_pos h4]
        omega
      · rw [if_neg h4] at hj2 ⊢
        rw [if_neg h4]
        omega
    rw [hm]
    refine Srow_c (A := A) (r := 29) (R := 48 * ((f + j') % 30)) (x := 119 + 55 * j') (Nat.le_trans (w.2.2.2.2 _ hj').1 w1) (fun k hk => ?_) (fun k hk => ?_) (s j' hj')
    · rw [o _ ?_, g0 _ _ (by omega)]
      have hb : (f0 + j) % 30 < 30 := Nat.mod_lt _ (by decide)
      have hc : (f0 + svn A) % 30 < 30 := Nat.mod_lt _ (by decide)
      have hd : (f0 + j) % 30 ≠ (f0 + svn A) % 30 := by omega
      omega
    · rw [sv_r hj2 hk, ← ej']
end Steps
