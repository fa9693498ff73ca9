/-! image and back -/
theorem Twn_m {I I' : Nat → Nat → Int32} {b c1 c2 c3 c4 c5 c6 c7 c8 b' d1 d2 d3 d4 d5 d6 d7 d8 : Nat} {A : Nat → Nat} (t : Twn I b c1 c2 c3 c4 c5 c6 c7 c8 A) (w1 : A 1 ≤ 4) (e0 : ∀ k, 8 ≤ k → k < 16 → I' b' k = I b k) (e1 : ∀ k, k < 8 → I' d1 k = I c1 k) (e2 : ∀ k, k < 8 → I' d2 k = I c2 k) (e3 : ∀ k, k < 8 → I' d3 k = I c3 k) (e4 : ∀ k, k < 4 → I' d4 k = I c4 k) (e5 : ∀ k, k < 4 → I' d5 k = I c5 k) (e6 : ∀ k, k < 4 → I' d6 k = I c6 k) (e7 : ∀ k, k < 4 → I' d7 k = I c7 k) (e8 : ∀ k, k < 30 → I' d8 k = I c8 k) : Twn I' b' d1 d2 d3 d4 d5 d6 d7 d8 A := by
  obtain ⟨t1, t2, t3, t4, t5, t6, t7, t8, t9, t10, t11, t12, t13, t14, t15, t16⟩ := t
  refine ⟨fun h hh => (e1 h hh).trans (t1 h hh), fun h hh => (e2 h hh).trans (t2 h hh), fun h hh => (e3 h hh).trans (t3 h hh), fun h hh => (e4 h (by omega)).trans (t4 h hh), fun h hh => (e5 h (by omega)).trans (t5 h hh), fun h hh => (e6 h (by omega)).trans (t6 h hh), fun h hh => (e7 h (by omega)).trans (t7 h hh), fun h hh => (e8 h hh).trans (t8 h hh), (e0 8 (by omega) (by omega)).trans t9, (e0 9 (by omega) (by omega)).trans t10, (e0 10 (by omega) (by omega)).trans t11, (e0 11 (by omega) (by omega)).trans t12, (e0 12 (by omega) (by omega)).trans t13, (e0 13 (by omega) (by omega)).trans t14, (e0 14 (by omega) (by omega)).trans t15, (e0 15 (by omega) (by omega)).trans t16⟩
theorem Stw_m {I I' : Nat → Nat → Int32} {s r s' r' : Nat} {A : Nat → Nat} (t : Stw I s r A) (w : Wf A) (e1 : I' s' 1 = I s 1) (e2 : I' s' 2 = I s 2) (e3 : ∀ k, k < 1440 → I' r' k = I r k) : Stw I' s' r' A := by
  obtain ⟨f, hf, t1, t2, t3⟩ := t
  refine ⟨f, hf, e1.trans t1, e2.trans t2, ?_⟩
  intro j hj
  have hm : (f + j) % 30 < 30 := Nat.mod_lt _ (by decide)
  exact Srow_c (Nat.le_trans (w.2.2.2.2 j hj).1 w.1.2.1) (fun k hk => e3 _ (by omega)) (fun _ _ => rfl) (t3 j hj)
theorem Nts_m {I I' : Nat → Nat → Int32} {b c1 c2 c3 c4 c5 c6 b' d1 d2 d3 d4 d5 d6 : Nat} {A : Nat → Nat} (t : Nts I b c1 c2 c3 c4 c5 c6 A) (w : Wf1 A) (e0 : ∀ k, k = 2 ∨ k = 4 ∨ k = 8 → I' b' k = I b k) (e1 : ∀ k, k < 8 → I' d1 k = I c1 k) (e2 : ∀ k, k < 8 → I' d2 k = I c2 k) (e3 : ∀ k, k < 7 → I' d3 k = I c3 k) (e4 : ∀ k, k < 8 → I' d4 k = I c4 k) (e5 : ∀ k, k < 8 → I' d5 k = I c5 k) (e6 : ∀ k, k < 8 → I' d6 k = I c6 k) : Nts I' b' d1 d2 d3 d4 d5 d6 A := by
  obtain ⟨t1, t2, t3, t4, t5, t6⟩ := t
  obtain ⟨v0, v1, v2, v3, v4, v5, v6, v7, -⟩ := w
  exact ⟨(e0 2 (by omega)).trans t1, (e0 4 (by omega)).trans t2, (e0 8 (by omega)).trans t3, fun j hj => ⟨(e1 j (by omega)).trans (t4 j hj).1, (e2 j (by omega)).trans (t4 j hj).2⟩, fun j hj => (e3 j (by omega)).trans (t5 j hj), fun j hj => ⟨(e4 j (by omega)).trans (t6 j hj).1, (e5 j (by omega)).trans (t6 j hj).2.1, (e6 j (by omega)).trans (t6 j hj).2.2⟩⟩
theorem cp_s {I : Nat → Nat → Int32} {c0 c1 j : Nat} : uI (uC I c0 c1 0 0 j) c1 j (I c0 j) = uC I c0 c1 0 0 (j + 1) := by
  funext c k
  unfold uI uC
  by_cases h1 : c = c1 ∧ k = j
  · rw [if_pos h1, if_pos (by omega), h1.2, Nat.zero_add, Nat.sub_zero]
  · rw [if_neg h1]
    by_cases h2 : c = c1 ∧ 0 ≤ k ∧ k < 0 + j
    · rw [if_pos h2, if_pos (by omega)]
    · rw [if_neg h2, if_neg (by omega)]
theorem cp_0 {I : Nat → Nat → Int32} {c0 c1 : Nat} : uC I c0 c1 0 0 0 = I := by
  funext c k
  exact if_neg (by omega)
section Image
variable {TX : (Nat → Nat → Int32) → Nat → Prop} {sc : Sc} {d : Nat} {I : Nat → Nat → Int32} {J : Nat → Nat → Int64} {T : Option Nat}
theorem sp_copya {u : Option Value} {Q : Option Value → Mm → Prop} : Rn sc d 168 0 [some (.ref 90), some (.ref 91), u] [] (K0, I, J, R1 T) Q = Q none (K0, uC I 90 91 0 0 1799, J, R1 T) := by
  have e := iter0 (fun j => Rn sc d 168 2 [some (.ref 90), some (.ref 91), some (.int (nI j))] [] (K0, uC I 90 91 0 0 j, J, R1 T) Q) 1799 (by
    intro j hj
    show Rn _ _ _ _ _ _ _ _ = Rn _ _ _ _ _ _ _ _
    rw [x168a_2]
    simp (disch := first | assumption | omega | decide) only [x168a_0, x168a_1, x168a_3, x168a_4, x168a_5, x168a_6, x168a_7, x168a_8, x168a_9, x168a_10, x168a_11, x168a_12, x168a_13, ↓reduceIte, Option.toList, List.nil_append, List.cons_append, nI_add, pk_mul, n_and, n_or, n_xor, nI_leI, nI_ltI, nI_eq, n_z, uI_s, uI_n, bI_n0, bI_n1, bT, bF, if_true, if_false, not_true, not_false_eq_true, pk_div, pk_rem, Nat.reduceEqDiff, Nat.reduceLeDiff, Nat.reduceLT, Nat.reduceAdd, Nat.reduceMul, Nat.reduceSub, Nat.not_lt_zero, Nat.zero_le, reduceCtorEq, ite_self, n_rem, and_self, and_true, true_and, and_false, false_and, Nat.not_le.mpr hj, uC_n, cp_s])
  simp (disch := first | assumption | omega | decide) only [x168a_0, x168a_1, x168a_3, x168a_4, x168a_5, x168a_6, x168a_7, x168a_8, x168a_9, x168a_10, x168a_11, x168a_12, x168a_13]
  rw [cp_0] at e
  refine Eq.trans e ?_
  show Rn _ _ _ _ _ _ _ _ = _
  rw [x168a_2]
  simp (disch := first | assumption | omega | decide) only [x168a_0, x168a_1, x168a_3, x168a_4, x168a_5, x168a_6, x168a_7, x168a_8, x168a_9, x168a_10, x168a_11, x168a_12, x168a_13, ↓reduceIte, Option.toList, List.nil_append, List.cons_append, nI_add, pk_mul, n_and, n_or, n_xor, nI_leI, nI_ltI, nI_eq, n_z, uI_s, uI_n, bI_n0, bI_n1, bT, bF, if_true, if_false, not_true, not_false_eq_true, pk_div, pk_rem, Nat.reduceEqDiff, Nat.reduceLeDiff, Nat.reduceLT, Nat.reduceAdd, Nat.reduceMul, Nat.reduceSub, Nat.not_lt_zero, Nat.zero_le, reduceCtorEq, ite_self, n_rem, and_self, and_true, true_and, and_false, false_and]
theorem sp_copyb {u : Option Value} {Q : Option Value → Mm → Prop} : Rn sc d 168 0 [some (.ref 91), some (.ref 90), u] [] (K0, I, J, R1 T) Q = Q none (K0, uC I 91 90 0 0 1799, J, R1 T) := by
  have e := iter0 (fun j => Rn sc d 168 2 [some (.ref 91), some (.ref 90), some (.int (nI j))] [] (K0, uC I 91 90 0 0 j, J, R1 T) Q) 1799 (by
    intro j hj
    show Rn _ _ _ _ _ _ _ _ = Rn _ _ _ _ _ _ _ _
    rw [x168b_2]
    simp (disch := first | assumption | omega | decide) only [x168b_0, x168b_1, x168b_3, x168b_4, x168b_5, x168b_6, x168b_7, x168b_8, x168b_9, x168b_10, x168b_11, x168b_12, x168b_13, ↓reduceIte, Option.toList, List.nil_append, List.cons_append, nI_add, pk_mul, n_and, n_or, n_xor, nI_leI, nI_ltI, nI_eq, n_z, uI_s, uI_n, bI_n0, bI_n1, bT, bF, if_true, if_false, not_true, not_false_eq_true, pk_div, pk_rem, Nat.reduceEqDiff, Nat.reduceLeDiff, Nat.reduceLT, Nat.reduceAdd, Nat.reduceMul, Nat.reduceSub, Nat.not_lt_zero, Nat.zero_le, reduceCtorEq, ite_self, n_rem, and_self, and_true, true_and, and_false, false_and, Nat.not_le.mpr hj, uC_n, cp_s])
  simp (disch := first | assumption | omega | decide) only [x168b_0, x168b_1, x168b_3, x168b_4, x168b_5, x168b_6, x168b_7, x168b_8, x168b_9, x168b_10, x168b_11, x168b_12, x168b_13]
  rw [cp_0] at e
  refine Eq.trans e ?_
  show Rn _ _ _ _ _ _ _ _ = _
  rw [x168b_2]
  simp (disch := first | assumption | omega | decide) only [x168b_0, x168b_1, x168b_3, x168b_4, x168b_5, x168b_6, x168b_7, x168b_8, x168b_9, x168b_10, x168b_11, x168b_12, x168b_13, ↓reduceIte, Option.toList, List.nil_append, List.cons_append, nI_add, pk_mul, n_and, n_or, n_xor, nI_leI, nI_ltI, nI_eq, n_z, uI_s, uI_n, bI_n0, bI_n1, bT, bF, if_true, if_false, not_true, not_false_eq_true, pk_div, pk_rem, Nat.reduceEqDiff, Nat.reduceLeDiff, Nat.reduceLT, Nat.reduceAdd, Nat.reduceMul, Nat.reduceSub, Nat.not_lt_zero, Nat.zero_le, reduceCtorEq, ite_self, n_rem, and_self, and_true, true_and, and_false, false_and]
theorem sp_becTa {A : Nat → Nat} (t : Twn I 10 11 12 13 14 15 16 17 18 A) (w1 : A 1 ≤ 4) : ∃ I', (∀ c k, c < 1 ∨ 9 < c → I' c k = I c k) ∧ Twn I' 1 2 3 4 5 6 7 8 9 A ∧ ∀ Q, Rn sc d 96 0 [some (.ref 1), some (.ref 10)] [] (K0, I, J, R1 T) Q = Q none (K0, I', J, R1 T) := by
  apply Exists.intro
  refine ⟨?f, ?t, fun Q => ?q⟩
  case q =>
    simp (disch := first | assumption | omega | decide) only [x96a_0, x96a_1, x96a_2, x96a_3, x96a_4, x96a_5, x96a_6, x96a_7, x96a_8, x96a_9, x96a_10, x96a_11, x96a_12, x96a_13, x96a_14, x96a_15, x96a_16, x96a_17, x96a_18, x96a_19, x96a_20, x96a_21, x96a_22, x96a_23, x96a_24, x96a_25, x96a_26, x96a_27, x96a_28, x96a_29, x96a_30, x96a_31, x96a_32, x96a_33, x96a_34, x96a_35, x96a_36, x96a_37, x96a_38, x96a_39, x96a_40, x96a_41, x96a_42, x96a_43, x96a_44, x96a_45, x96a_46, x96a_47, x96a_48, x96a_49, x96a_50, x96a_51, x96a_52, x96a_53, x96a_54, x96a_55, x96a_56, x96a_57, x96a_58, x96a_59, x96a_60, x96a_61, x96a_62, x96a_63, x96a_64, x96a_65, x96a_66, x96a_67, x96a_68, x96a_69, x96a_70, x96a_71, x96a_72, x96a_73, x96a_74, x96a_75, x96a_76, x96a_77, x96a_78, x96a_79, x96a_80, x96a_81, x96a_82, x96a_83, x96a_84, x96a_85, x96a_86, x96a_87, x96a_88, x96a_89, x96a_90, x96a_91, x96a_92, x96a_93, x96a_94, x96a_95, x96a_96]
    rfl
  case f =>
    intro c k hc
    simp (disch := first | assumption | omega | decide) only [uI_n, uC_n]
  case t =>
    refine Twn_m t w1 ?_ ?_ ?_ ?_ ?_ ?_ ?_ ?_ ?_
    · intro k h1 h2
      have h3 : k = 8 ∨ k = 9 ∨ k = 10 ∨ k = 11 ∨ k = 12 ∨ k = 13 ∨ k = 14 ∨ k = 15 := by omega
      rcases h3 with rfl | rfl | rfl | rfl | rfl | rfl | rfl | rfl <;> simp (disch := first | assumption | omega | decide) only [uI_s, uI_n, uC_n]
    · intro k hk; simp (disch := first | assumption | omega | decide) only [uI_n, uC_n, uC_i, Nat.zero_add, Nat.sub_zero]
    · intro k hk; simp (disch := first | assumption | omega | decide) only [uI_n, uC_n, uC_i, Nat.zero_add, Nat.sub_zero]
    · intro k hk; simp (disch := first | assumption | omega | decide) only [uI_n, uC_n, uC_i, Nat.zero_add, Nat.sub_zero]
    · intro k hk; simp (disch := first | assumption | omega | decide) only [uI_n, uC_n, uC_i, Nat.zero_add, Nat.sub_zero]
    · intro k hk; simp (disch := first | assumption | omega | decide) only [uI_n, uC_n, uC_i, Nat.zero_add, Nat.sub_zero]
    · intro k hk; simp (disch := first | assumption | omega | decide) only [uI_n, uC_n, uC_i, Nat.zero_add, Nat.sub_zero]
    · intro k hk; simp (disch := first | assumption | omega | decide) only [uI_n, uC_n, uC_i, Nat.zero_add, Nat.sub_zero]
    · intro k hk; simp (disch := first | assumption | omega | decide) only [uI_n, uC_n, uC_i, Nat.zero_add, Nat.sub_zero]
theorem sp_becTb {A : Nat → Nat} (t : Twn I 1 2 3 4 5 6 7 8 9 A) (w1 : A 1 ≤ 4) : ∃ I', (∀ c k, c < 19 ∨ 27 < c → I' c k = I c k) ∧ Twn I' 19 20 21 22 23 24 25 26 27 A ∧ ∀ Q, Rn sc d 96 0 [some (.ref 19), some (.ref 1)] [] (K0, I, J, R1 T) Q = Q none (K0, I', J, R1 T) := by
  apply Exists.intro
  refine ⟨?f, ?t, fun Q => ?q⟩
  case q =>
    simp (disch := first | assumption | omega | decide) only [x96b_0, x96b_1, x96b_2, x96b_3, x96b_4, x96b_5, x96b_6, x96b_7, x96b_8, x96b_9, x96b_10, x96b_11, x96b_12, x96b_13, x96b_14, x96b_15, x96b_16, x96b_17, x96b_18, x96b_19, x96b_20, x96b_21, x96b_22, x96b_23, x96b_24, x96b_25, x96b_26, x96b_27, x96b_28, x96b_29, x96b_30, x96b_31, x96b_32, x96b_33, x96b_34, x96b_35, x96b_36, x96b_37, x96b_38, x96b_39, x96b_40, x96b_41, x96b_42, x96b_43, x96b_44, x96b_45, x96b_46, x96b_47, x96b_48, x96b_49, x96b_50, x96b_51, x96b_52, x96b_53, x96b_54, x96b_55, x96b_56, x96b_57, x96b_58, x96b_59, x96b_60, x96b_61, x96b_62, x96b_63, x96b_64, x96b_65, x96b_66, x96b_67, x96b_68, x96b_69, x96b_70, x96b_71, x96b_72, x96b_73, x96b_74, x96b_75, x96b_76, x96b_77, x96b_78, x96b_79, x96b_80, x96b_81, x96b_82, x96b_83, x96b_84, x96b_85, x96b_86, x96b_87, x96b_88, x96b_89, x96b_90, x96b_91, x96b_92, x96b_93, x96b_94, x96b_95, x96b_96]
    rfl
  case f =>
    intro c k hc
    simp (disch := first | assumption | omega | decide) only [uI_n, uC_n]
  case t =>
    refine Twn_m t w1 ?_ ?_ ?_ ?_ ?_ ?_ ?_ ?_ ?_
    · intro k h1 h2
      have h3 : k = 8 ∨ k = 9 ∨ k = 10 ∨ k = 11 ∨ k = 12 ∨ k = 13 ∨ k = 14 ∨ k = 15 := by omega
      rcases h3 with rfl | rfl | rfl | rfl | rfl | rfl | rfl | rfl <;> simp (disch := first | assumption | omega | decide) only [uI_s, uI_n, uC_n]
    · intro k hk; simp (disch := first | assumption | omega | decide) only [uI_n, uC_n, uC_i, Nat.zero_add, Nat.sub_zero]
    · intro k hk; simp (disch := first | assumption | omega | decide) only [uI_n, uC_n, uC_i, Nat.zero_add, Nat.sub_zero]
    · intro k hk; simp (disch := first | assumption | omega | decide) only [uI_n, uC_n, uC_i, Nat.zero_add, Nat.sub_zero]
    · intro k hk; simp (disch := first | assumption | omega | decide) only [uI_n, uC_n, uC_i, Nat.zero_add, Nat.sub_zero]
    · intro k hk; simp (disch := first | assumption | omega | decide) only [uI_n, uC_n, uC_i, Nat.zero_add, Nat.sub_zero]
    · intro k hk; simp (disch := first | assumption | omega | decide) only [uI_n, uC_n, uC_i, Nat.zero_add, Nat.sub_zero]
    · intro k hk; simp (disch := first | assumption | omega | decide) only [uI_n, uC_n, uC_i, Nat.zero_add, Nat.sub_zero]
    · intro k hk; simp (disch := first | assumption | omega | decide) only [uI_n, uC_n, uC_i, Nat.zero_add, Nat.sub_zero]
theorem sp_becTc {A : Nat → Nat} (t : Twn I 1 2 3 4 5 6 7 8 9 A) (w1 : A 1 ≤ 4) : ∃ I', (∀ c k, c < 10 ∨ 18 < c → I' c k = I c k) ∧ Twn I' 10 11 12 13 14 15 16 17 18 A ∧ ∀ Q, Rn sc d 96 0 [some (.ref 10), some (.ref 1)] [] (K0, I, J, R1 T) Q = Q none (K0, I', J, R1 T) := by
  apply Exists.intro
  refine ⟨?f, ?t, fun Q => ?q⟩
  case q =>
    simp (disch := first | assumption | omega | decide) only [x96c_0, x96c_1, x96c_2, x96c_3, x96c_4, x96c_5, x96c_6, x96c_7, x96c_8, x96c_9, x96c_10, x96c_11, x96c_12, x96c_13, x96c_14, x96c_15, x96c_16, x96c_17, x96c_18, x96c_19, x96c_20, x96c_21, x96c_22, x96c_23, x96c_24, x96c_25, x96c_26, x96c_27, x96c_28, x96c_29, x96c_30, x96c_31, x96c_32, x96c_33, x96c_34, x96c_35, x96c_36, x96c_37, x96c_38, x96c_39, x96c_40, x96c_41, x96c_42, x96c_43, x96c_44, x96c_45, x96c_46, x96c_47, x96c_48, x96c_49, x96c_50, x96c_51, x96c_52, x96c_53, x96c_54, x96c_55, x96c_56, x96c_57, x96c_58, x96c_59, x96c_60, x96c_61, x96c_62, x96c_63, x96c_64, x96c_65, x96c_66, x96c_67, x96c_68, x96c_69, x96c_70, x96c_71, x96c_72, x96c_73, x96c_74, x96c_75, x96c_76, x96c_77, x96c_78, x96c_79, x96c_80, x96c_81, x96c_82, x96c_83, x96c_84, x96c_85, x96c_86, x96c_87, x96c_88, x96c_89, x96c_90, x96c_91, x96c_92, x96c_93, x96c_94, x96c_95, x96c_96]
    rfl
  case f =>
    intro c k hc
    simp (disch := first | assumption | omega | decide) only [uI_n, uC_n]
  case t =>
    refine Twn_m t w1 ?_ ?_ ?_ ?_ ?_ ?_ ?_ ?_ ?_
    · intro k h1 h2
      have h3 : k = 8 ∨ k = 9 ∨ k = 10 ∨ k = 11 ∨ k = 12 ∨ k = 13 ∨ k = 14 ∨ k = 15 := by omega
      rcases h3 with rfl | rfl | rfl | rfl | rfl | rfl | rfl | rfl <;> simp (disch := first | assumption | omega | decide) only [uI_s, uI_n, uC_n]
    · intro k hk; simp (disch := first | assumption | omega | decide) only [uI_n, uC_n, uC_i, Nat.zero_add, Nat.sub_zero]
    · intro k hk; simp (disch := first | assumption | omega | decide) only [uI_n, uC_n, uC_i, Nat.zero_add, Nat.sub_zero]
    · intro k hk; simp (disch := first | assumption | omega | decide) only [uI_n, uC_n, uC_i, Nat.zero_add, Nat.sub_zero]
    · intro k hk; simp (disch := first | assumption | omega | decide) only [uI_n, uC_n, uC_i, Nat.zero_add, Nat.sub_zero]
    · intro k hk; simp (disch := first | assumption | omega | decide) only [uI_n, uC_n, uC_i, Nat.zero_add, Nat.sub_zero]
    · intro k hk; simp (disch := first | assumption | omega | decide) only [uI_n, uC_n, uC_i, Nat.zero_add, Nat.sub_zero]
    · intro k hk; simp (disch := first | assumption | omega | decide) only [uI_n, uC_n, uC_i, Nat.zero_add, Nat.sub_zero]
    · intro k hk; simp (disch := first | assumption | omega | decide) only [uI_n, uC_n, uC_i, Nat.zero_add, Nat.sub_zero]
theorem sp_becSa {A : Nat → Nat} (t : Stw I 30 31 A) (w : Wf A) : ∃ I', (∀ c k, c < 28 ∨ 29 < c → I' c k = I c k) ∧ Stw I' 28 29 A ∧ ∀ Q, Rn sc d 55 0 [some (.ref 28), some (.ref 30)] [] (K0, I, J, R1 T) Q = Q none (K0, I', J, R1 T) := by
  apply Exists.intro
  refine ⟨?f, ?t, fun Q => ?q⟩
  case q =>
    simp (disch := first | assumption | omega | decide) only [x55a_0, x55a_1, x55a_2, x55a_3, x55a_4, x55a_5, x55a_6, x55a_7, x55a_8, x55a_9, x55a_10, x55a_11, x55a_12, x55a_13, x55a_14, x55a_15, x55a_16, x55a_17, x55a_18]
    rfl
  case f =>
    intro c k hc
    simp (disch := first | assumption | omega | decide) only [uI_n, uC_n]
  case t =>
    refine Stw_m t w ?_ ?_ ?_
    · simp (disch := first | assumption | omega | decide) only [uI_s, uI_n, uC_n]
    · simp (disch := first | assumption | omega | decide) only [uI_s, uI_n, uC_n]
    · intro k hk; simp (disch := first | assumption | omega | decide) only [uI_n, uC_n, uC_i, Nat.zero_add, Nat.sub_zero]
theorem sp_becSc {A : Nat → Nat} (t : Stw I 28 29 A) (w : Wf A) : ∃ I', (∀ c k, c < 30 ∨ 31 < c → I' c k = I c k) ∧ Stw I' 30 31 A ∧ ∀ Q, Rn sc d 55 0 [some (.ref 30), some (.ref 28)] [] (K0, I, J, R1 T) Q = Q none (K0, I', J, R1 T) := by
  apply Exists.intro
  refine ⟨?f, ?t, fun Q => ?q⟩
  case q =>
    simp (disch := first | assumption | omega | decide) only [x55c_0, x55c_1, x55c_2, x55c_3, x55c_4, x55c_5, x55c_6, x55c_7, x55c_8, x55c_9, x55c_10, x55c_11, x55c_12, x55c_13, x55c_14, x55c_15, x55c_16, x55c_17, x55c_18]
    rfl
  case f =>
    intro c k hc
    simp (disch := first | assumption | omega | decide) only [uI_n, uC_n]
  case t =>
    refine Stw_m t w ?_ ?_ ?_
    · simp (disch := first | assumption | omega | decide) only [uI_s, uI_n, uC_n]
    · simp (disch := first | assumption | omega | decide) only [uI_s, uI_n, uC_n]
    · intro k hk; simp (disch := first | assumption | omega | decide) only [uI_n, uC_n, uC_i, Nat.zero_add, Nat.sub_zero]
theorem sp_becNa {A : Nat → Nat} (t : Nts I 39 40 41 42 43 44 45 A) (w : Wf1 A) : ∃ I', (∀ c k, c < 32 ∨ 38 < c → I' c k = I c k) ∧ Nts I' 32 33 34 35 36 37 38 A ∧ ∀ Q, Rn sc d 28 0 [some (.ref 32), some (.ref 39)] [] (K0, I, J, R1 T) Q = Q none (K0, I', J, R1 T) := by
  apply Exists.intro
  refine ⟨?f, ?t, fun Q => ?q⟩
  case q =>
    simp (disch := first | assumption | omega | decide) only [x28a_0, x28a_1, x28a_2, x28a_3, x28a_4, x28a_5, x28a_6, x28a_7, x28a_8, x28a_9, x28a_10, x28a_11, x28a_12, x28a_13, x28a_14, x28a_15, x28a_16, x28a_17, x28a_18, x28a_19, x28a_20, x28a_21, x28a_22, x28a_23, x28a_24, x28a_25, x28a_26, x28a_27, x28a_28, x28a_29, x28a_30, x28a_31, x28a_32, x28a_33, x28a_34, x28a_35, x28a_36, x28a_37, x28a_38, x28a_39, x28a_40, x28a_41, x28a_42, x28a_43, x28a_44, x28a_45, x28a_46, x28a_47, x28a_48, x28a_49, x28a_50, x28a_51, x28a_52, x28a_53, x28a_54, x28a_55, x28a_56, x28a_57, x28a_58, x28a_59, x28a_60]
    rfl
  case f =>
    intro c k hc
    simp (disch := first | assumption | omega | decide) only [uI_n, uC_n]
  case t =>
    refine Nts_m t w ?_ ?_ ?_ ?_ ?_ ?_ ?_
    · rintro k (rfl | rfl | rfl) <;> simp (disch := first | assumption | omega | decide) only [uI_s, uI_n, uC_n]
    · intro k hk; simp (disch := first | assumption | omega | decide) only [uI_n, uC_n, uC_i, Nat.zero_add, Nat.sub_zero]
    · intro k hk; simp (disch := first | assumption | omega | decide) only [uI_n, uC_n, uC_i, Nat.zero_add, Nat.sub_zero]
    · intro k hk; simp (disch := first | assumption | omega | decide) only [uI_n, uC_n, uC_i, Nat.zero_add, Nat.sub_zero]
    · intro k hk; simp (disch := first | assumption | omega | decide) only [uI_n, uC_n, uC_i, Nat.zero_add, Nat.sub_zero]
    · intro k hk; simp (disch := first | assumption | omega | decide) only [uI_n, uC_n, uC_i, Nat.zero_add, Nat.sub_zero]
    · intro k hk; simp (disch := first | assumption | omega | decide) only [uI_n, uC_n, uC_i, Nat.zero_add, Nat.sub_zero]
theorem sp_becNc {A : Nat → Nat} (t : Nts I 32 33 34 35 36 37 38 A) (w : Wf1 A) : ∃ I', (∀ c k, c < 39 ∨ 45 < c → I' c k = I c k) ∧ Nts I' 39 40 41 42 43 44 45 A ∧ ∀ Q, Rn sc d 28 0 [some (.ref 39), some (.ref 32)] [] (K0, I, J, R1 T) Q = Q none (K0, I', J, R1 T) := by
  apply Exists.intro
  refine ⟨?f, ?t, fun Q => ?q⟩
  case q =>
    simp (disch := first | assumption | omega | decide) only [x28c_0, x28c_1, x28c_2, x28c_3, x28c_4, x28c_5, x28c_6, x28c_7, x28c_8, x28c_9, x28c_10, x28c_11, x28c_12, x28c_13, x28c_14, x28c_15, x28c_16, x28c_17, x28c_18, x28c_19, x28c_20, x28c_21, x28c_22, x28c_23, x28c_24, x28c_25, x28c_26, x28c_27, x28c_28, x28c_29, x28c_30, x28c_31, x28c_32, x28c_33, x28c_34, x28c_35, x28c_36, x28c_37, x28c_38, x28c_39, x28c_40, x28c_41, x28c_42, x28c_43, x28c_44, x28c_45, x28c_46, x28c_47, x28c_48, x28c_49, x28c_50, x28c_51, x28c_52, x28c_53, x28c_54, x28c_55, x28c_56, x28c_57, x28c_58, x28c_59, x28c_60]
    rfl
  case f =>
    intro c k hc
    simp (disch := first | assumption | omega | decide) only [uI_n, uC_n]
  case t =>
    refine Nts_m t w ?_ ?_ ?_ ?_ ?_ ?_ ?_
    · rintro k (rfl | rfl | rfl) <;> simp (disch := first | assumption | omega | decide) only [uI_s, uI_n, uC_n]
    · intro k hk; simp (disch := first | assumption | omega | decide) only [uI_n, uC_n, uC_i, Nat.zero_add, Nat.sub_zero]
    · intro k hk; simp (disch := first | assumption | omega | decide) only [uI_n, uC_n, uC_i, Nat.zero_add, Nat.sub_zero]
    · intro k hk; simp (disch := first | assumption | omega | decide) only [uI_n, uC_n, uC_i, Nat.zero_add, Nat.sub_zero]
    · intro k hk; simp (disch := first | assumption | omega | decide) only [uI_n, uC_n, uC_i, Nat.zero_add, Nat.sub_zero]
    · intro k hk; simp (disch := first | assumption | omega | decide) only [uI_n, uC_n, uC_i, Nat.zero_add, Nat.sub_zero]
    · intro k hk; simp (disch := first | assumption | omega | decide) only [uI_n, uC_n, uC_i, Nat.zero_add, Nat.sub_zero]
theorem jt_image : Jt TX sc (d + 3) 160 303 [some (.ref 0)] [some (.ref 89)] := by
  intro A B M w _
  obtain ⟨wA, wB, wt⟩ := w
  refine ⟨nI (A 8), A, A, ⟨wA, wA, Nat.le_refl _⟩, Nat.le_refl _, ?_, ?_⟩
  · intro I J T hC _
    obtain ⟨t1, t2, s1, s2, n1, n2⟩ := hC
    obtain ⟨I1, f1, g1, q1⟩ := sp_becTc (sc := sc) (d := d + 2) (J := J) (T := T) t1 wA.1.2.1
    obtain ⟨I2, f2, g2, q2⟩ := sp_becSc (sc := sc) (d := d + 2) (J := J) (T := T) (Stw_m (I' := I1) (s' := 28) (r' := 29) s1 wA (f1 _ _ (by omega)) (f1 _ _ (by omega)) (fun k _ => f1 _ _ (by omega))) wA
    obtain ⟨I3, f3, g3, q3⟩ := sp_becNc (sc := sc) (d := d + 2) (J := J) (T := T) (Nts_c (I' := I2) n1 (fun c k hc => (f2 c k (by omega)).trans (f1 c k (by omega))) (fun _ _ => rfl) wA.1) wA.1
    have fI : ∀ c k, c < 10 ∨ (18 < c ∧ c < 30) ∨ (31 < c ∧ c < 39) ∨ 45 < c → I3 c k = I c k := fun c k hc => (f3 c k (by omega)).trans ((f2 c k (by omega)).trans (f1 c k (by omega)))
    have fA : ∀ k : Nat, True → A k = A k := fun _ _ => rfl
    have fN : Nts I3 32 33 34 35 36 37 38 A := Nts_c n1 (fun c k hc => fI c k (by omega)) (fun _ _ => rfl) wA.1
    refine ⟨I3, fun c k hc => fI c k (by omega), ⟨Twn_c t1 (fun c k hc => fI c k (by omega)) (fun _ _ _ _ => rfl) ⟨wA.1.1, wA.1.2.1⟩, Twn_c g1 (fun c k hc => (f3 c k (by omega)).trans (f2 c k (by omega))) (fun _ _ _ _ => rfl) ⟨wA.1.1, wA.1.2.1⟩, Stw_c s1 (fun c k hc => fI c k (by omega)) rfl (fun _ _ _ => rfl) wA, Stw_c g2 (fun c k hc => f3 c k (by omega)) rfl (fun _ _ _ => rfl) wA, fN, g3⟩, fun Q => ?_⟩
    simp (disch := first | assumption | omega | decide) only [x160_0, x160_1, x160_2, x160_3, x160_4, x160_5, x160_6, x160_7, x160_8, x160_9, x160_10, x160_11, x160_12, x160_13, x160_14, x160_15, x160_16, x160_17, x160_18, q1, q2, q3, ↓reduceIte, Option.toList, List.nil_append, List.cons_append, nI_add, pk_mul, n_and, n_or, n_xor, nI_leI, nI_ltI, nI_eq, n_z, uI_s, uI_n, bI_n0, bI_n1, bT, bF, if_true, if_false, not_true, not_false_eq_true, pk_div, pk_rem, Nat.reduceEqDiff, Nat.reduceLeDiff, Nat.reduceLT, Nat.reduceAdd, Nat.reduceMul, Nat.reduceSub, Nat.not_lt_zero, Nat.zero_le, reduceCtorEq, ite_self, n_rem, and_self, and_true, true_and, and_false, false_and, fI 1 11 (by omega), tw_day t1]
  · intro I J T hM _
    refine ⟨uC I 90 91 0 0 1799, J, ⟨fun c k hc => uC_n (by omega), fun k hk => uC_n (by omega)⟩, ⟨AtM_c hM.1 (fun k => uC_n (by omega)), fun k hk => by rw [uC_i (by omega), Nat.zero_add, Nat.sub_zero]; exact hM.1 k hk, (uC_n (by omega)).trans hM.2.2⟩, fun Q => ?_⟩
    simp (disch := first | assumption | omega | decide) only [x303_0, x303_1, x303_2, x303_3, x303_4, x303_5, x303_6, x303_7, x303_8, x303_9, sp_copya, ↓reduceIte, Option.toList, List.nil_append, List.cons_append, nI_add, pk_mul, n_and, n_or, n_xor, nI_leI, nI_ltI, nI_eq, n_z, uI_s, uI_n, bI_n0, bI_n1, bT, bF, if_true, if_false, not_true, not_false_eq_true, pk_div, pk_rem, Nat.reduceEqDiff, Nat.reduceLeDiff, Nat.reduceLT, Nat.reduceAdd, Nat.reduceMul, Nat.reduceSub, Nat.not_lt_zero, Nat.zero_le, reduceCtorEq, ite_self, n_rem, and_self, and_true, true_and, and_false, false_and, uC_n, hM.1 8 (by decide)]
theorem jt_back : Jt TX sc (d + 3) 161 304 [some (.ref 0)] [some (.ref 89)] := by
  intro A B M w _
  obtain ⟨wA, wB, wt⟩ := w
  refine ⟨nI (B 8), B, B, ⟨wB, wB, Nat.le_refl _⟩, wt, ?_, ?_⟩
  · intro I J T hC _
    obtain ⟨t1, t2, s1, s2, n1, n2⟩ := hC
    obtain ⟨I1, f1, g1, q1⟩ := sp_becTa (sc := sc) (d := d + 2) (J := J) (T := T) t2 wB.1.2.1
    obtain ⟨I2, f2, g2, q2⟩ := sp_becSa (sc := sc) (d := d + 2) (J := J) (T := T) (Stw_m (I' := I1) (s' := 30) (r' := 31) s2 wB (f1 _ _ (by omega)) (f1 _ _ (by omega)) (fun k _ => f1 _ _ (by omega))) wB
    obtain ⟨I3, f3, g3, q3⟩ := sp_becNa (sc := sc) (d := d + 2) (J := J) (T := T) (Nts_c (I' := I2) n2 (fun c k hc => (f2 c k (by omega)).trans (f1 c k (by omega))) (fun _ _ => rfl) wB.1) wB.1
    have fI : ∀ c k, c < 1 ∨ (9 < c ∧ c < 28) ∨ (29 < c ∧ c < 32) ∨ 38 < c → I3 c k = I c k := fun c k hc => (f3 c k (by omega)).trans ((f2 c k (by omega)).trans (f1 c k (by omega)))
    have fT : Twn I3 1 2 3 4 5 6 7 8 9 B := Twn_c g1 (fun c k hc => (f3 c k (by omega)).trans (f2 c k (by omega))) (fun _ _ _ _ => rfl) ⟨wB.1.1, wB.1.2.1⟩
    refine ⟨I3, fun c k hc => fI c k (by omega), ⟨fT, Twn_c t2 (fun c k hc => fI c k (by omega)) (fun _ _ _ _ => rfl) ⟨wB.1.1, wB.1.2.1⟩, Stw_c g2 (fun c k hc => f3 c k (by omega)) rfl (fun _ _ _ => rfl) wB, Stw_c s2 (fun c k hc => fI c k (by omega)) rfl (fun _ _ _ => rfl) wB, g3, Nts_c n2 (fun c k hc => fI c k (by omega)) (fun _ _ => rfl) wB.1⟩, fun Q => ?_⟩
    simp (disch := first | assumption | omega | decide) only [x161_0, x161_1, x161_2, x161_3, x161_4, x161_5, x161_6, x161_7, x161_8, x161_9, x161_10, x161_11, x161_12, x161_13, x161_14, x161_15, x161_16, x161_17, x161_18, q1, q2, q3, ↓reduceIte, Option.toList, List.nil_append, List.cons_append, nI_add, pk_mul, n_and, n_or, n_xor, nI_leI, nI_ltI, nI_eq, n_z, uI_s, uI_n, bI_n0, bI_n1, bT, bF, if_true, if_false, not_true, not_false_eq_true, pk_div, pk_rem, Nat.reduceEqDiff, Nat.reduceLeDiff, Nat.reduceLT, Nat.reduceAdd, Nat.reduceMul, Nat.reduceSub, Nat.not_lt_zero, Nat.zero_le, reduceCtorEq, ite_self, n_rem, and_self, and_true, true_and, and_false, false_and, tw_day fT]
  · intro I J T hM _
    have hB : AtM (uC I 91 90 0 0 1799) 90 B := fun k hk => by rw [uC_i (by omega), Nat.zero_add, Nat.sub_zero]; exact hM.2.1 k hk
    refine ⟨uC I 91 90 0 0 1799, J, ⟨fun c k hc => uC_n (by omega), fun k hk => uC_n (by omega)⟩, ⟨hB, AtM_c hM.2.1 (fun k => uC_n (by omega)), (uC_n (by omega)).trans hM.2.2⟩, fun Q => ?_⟩
    simp (disch := first | assumption | omega | decide) only [x304_0, x304_1, x304_2, x304_3, x304_4, x304_5, x304_6, x304_7, x304_8, x304_9, sp_copyb, ↓reduceIte, Option.toList, List.nil_append, List.cons_append, nI_add, pk_mul, n_and, n_or, n_xor, nI_leI, nI_ltI, nI_eq, n_z, uI_s, uI_n, bI_n0, bI_n1, bT, bF, if_true, if_false, not_true, not_false_eq_true, pk_div, pk_rem, Nat.reduceEqDiff, Nat.reduceLeDiff, Nat.reduceLT, Nat.reduceAdd, Nat.reduceMul, Nat.reduceSub, Nat.not_lt_zero, Nat.zero_le, reduceCtorEq, ite_self, n_rem, and_self, and_true, true_and, and_false, false_and, hB 8 (by decide)]
end Image
