/-! by, heard, pack, said -/
theorem by_t {x : Int32} {n : Nat} (hn : n ≤ 4) (h : x = -1 ∨ inR x n) : bI (-1 ≤ x ∧ x ≤ nI n - nI 1) = nI 1 := by
  rw [bI_t]
  have e1 : (-1 : Int32).toInt = -1 := by decide
  rw [Int32.le_iff_toInt_le, Int32.le_iff_toInt_le, pk_sub_toInt (by omega) (by decide), e1]
  rcases h with rfl | ⟨k, hk, rfl⟩
  · rw [e1]
    omega
  · rw [nI_toInt (by omega)]
    omega
theorem by_f {x : Int32} {n : Nat} (hn : n ≤ 4) (h : ¬ x = -1) (h2 : ¬ inR x n) : bI (-1 ≤ x ∧ x ≤ nI n - nI 1) = nI 0 := by
  rw [bI_f]
  have e1 : (-1 : Int32).toInt = -1 := by decide
  rw [Int32.le_iff_toInt_le, Int32.le_iff_toInt_le, pk_sub_toInt (by omega) (by decide), e1]
  rintro ⟨h3, h4⟩
  rcases pk_ix x (show n < 2 ^ 31 by omega) with h5 | h5 | h5
  · have h6 := Int32.lt_iff_toInt_lt.mp h5
    have e0 : (0 : Int32).toInt = 0 := by decide
    rw [e0] at h6
    exact h (Int32.toInt_inj.mp (by rw [e1]; omega))
  · have h6 := Int32.le_iff_toInt_le.mp h5
    rw [nI_toInt (by omega)] at h6
    omega
  · exact h2 h5
section Notes
variable {TX : (Nat → Nat → Int32) → Nat → Prop} {sc : Sc} {d : Nat}
theorem jt_by {x : Int32} : Jt TX sc (d + 3) 115 221 [some (.ref 0), some (.int x)] [some (.ref 89), some (.int x)] := by
  intro A B M w _
  have w' := w
  obtain ⟨wA, wB, wt⟩ := w
  have w0 : A 0 ≤ 12 := wA.1.1
  have w1 : A 1 ≤ 4 := wA.1.2.1
  have w2 : A 2 ≤ 4 := wA.1.2.2.1
  by_cases hx : x = -1 ∨ inR x (A 2)
  · obtain ⟨v, hv, ev⟩ : ∃ v, (v = 4294967295 ∨ v < A 2) ∧ x = nI v := by
      rcases hx with rfl | ⟨k, hk, rfl⟩
      · exact ⟨4294967295, Or.inl rfl, n_m1⟩
      · exact ⟨k, Or.inr hk, rfl⟩
    obtain ⟨A', eA⟩ : ∃ X, X = upA A 3 v := ⟨_, rfl⟩
    have fA : ∀ k, k ≠ 3 → A' k = A k := fun k hk => by rw [eA]; exact upA_n hk
    have f3 : A' 3 = v := by rw [eA, upA_s]
    have f1 : A' 1 = A 1 := fA 1 (by omega)
    have f2 : A' 2 = A 2 := fA 2 (by omega)
    have W1 : Wf1 A' := by
      obtain ⟨v0, v1, v2, -, v4⟩ := wA.1
      unfold Wf1
      rw [f3, fA 0 (by omega), fA 1 (by omega), fA 2 (by omega), fA 4 (by omega), fA 5 (by omega), fA 6 (by omega), fA 7 (by omega), fA 8 (by omega), fA 9 (by omega), fA 10 (by omega), fA 11 (by omega)]
      exact ⟨v0, v1, v2, hv, v4⟩
    refine ⟨nI 1, A', B, ⟨⟨W1, (Wf2_c (fun k hk => fA k (by omega)) wA.2.1), (Wf3_c (fun k hk => fA k (by omega)) wA.1.1 wA.2.2.1), (Wf4_c (fun k hk => fA k (by omega)) wA.1 wA.2.2.2.1), (Wf5_c (fun k hk => fA k (by omega)) wA.1.2.2.2.2.1 wA.2.2.2.2)⟩, wB, by omega⟩, by omega, ?_, ?_⟩
    · intro I J T hC _
      obtain ⟨t1, t2, s1, s2, n1, n2⟩ := hC
      obtain ⟨I1, eI⟩ : ∃ X, X = uI I 1 15 x := ⟨_, rfl⟩
      have fI : ∀ c k, c ≠ 1 ∨ k ≠ 15 → I1 c k = I c k := fun c k hk => by rw [eI]; exact uI_n hk
      refine ⟨I1, fun c k hc => fI c k (by omega), ⟨⟨(fun h hh => by rw [fI _ _ (by omega), fA _ (by omega)]; exact tw_rooms t1 hh), (fun h hh => by rw [fI _ _ (by omega), fA _ (by omega)]; exact tw_income t1 hh), (fun h hh => by rw [fI _ _ (by omega), bes_c (fun k hk => fA k (by omega)) w0]; exact tw_beside t1 hh), (fun r hr => by rw [f1] at hr; rw [fI _ _ (by omega), fA _ (by omega)]; exact tw_truth t1 hr), (fun r hr => by rw [f1] at hr; rw [fI _ _ (by omega), fA _ (by omega)]; exact tw_purse t1 hr), (fun r hr => by rw [f1] at hr; rw [fI _ _ (by omega), fA _ (by omega)]; exact tw_told t1 hr), (fun r hr => by rw [f1] at hr; rw [fI _ _ (by omega), kpr_c (fun h hh => fA _ (by omega))]; exact tw_keepers t1 hr), (fun h hh => by rw [fI _ _ (by omega), fA _ (by omega)]; exact tw_pages t1 hh), (by rw [fI _ _ (by omega), fA _ (by omega)]; exact tw_written t1), (by rw [fI _ _ (by omega), fA _ (by omega)]; exact tw_roads t1), (by rw [fI _ _ (by omega), fA _ (by omega)]; exact tw_rumours t1), (by rw [fI _ _ (by omega), fA _ (by omega)]; exact tw_day t1), (by rw [fI _ _ (by omega), fA _ (by omega)]; exact tw_x t1), (by rw [fI _ _ (by omega), fA _ (by omega)]; exact tw_paid t1), (by rw [fI _ _ (by omega), fA _ (by omega)]; exact tw_texts t1), ?_⟩, Twn_c t2 (fun c k hc => fI c k (by omega)) (fun _ _ _ _ => rfl) ⟨wB.1.1, wB.1.2.1⟩, Stw_c s1 (fun c k hc => fI c k (by omega)) (fA 4 (by omega)) (fun k h1 h2 => fA k (by omega)) wA, Stw_c s2 (fun c k hc => fI c k (by omega)) rfl (fun _ _ _ => rfl) wB, Nts_c n1 (fun c k hc => fI c k (by omega)) (fun k hk => fA k (by omega)) wA.1, Nts_c n2 (fun c k hc => fI c k (by omega)) (fun _ _ => rfl) wB.1⟩, fun Q => ?_⟩
      · rw [eI, uI_s, f3]
        exact ev
      · rw [eI]
        rcases hx with hm | ⟨k, hk, rfl⟩
        · simp (disch := first | assumption | omega | decide) only [x115_0, x115_1, x115_2, x115_3, x115_4, x115_5, x115_6, x115_7, x115_8, x115_9, x115_10, x115_11, x115_12, x115_13, x115_14, x115_15, ↓reduceIte, Option.toList, List.nil_append, List.cons_append, nI_add, pk_mul, n_and, n_or, n_xor, nI_leI, nI_ltI, nI_eq, n_z, uI_s, uI_n, bI_n0, bI_n1, bT, bF, if_true, if_false, not_true, not_false_eq_true, pk_div, pk_rem, Nat.reduceEqDiff, Nat.reduceLeDiff, Nat.reduceLT, Nat.reduceAdd, Nat.reduceMul, Nat.reduceSub, Nat.not_lt_zero, Nat.zero_le, reduceCtorEq, ite_self, n_rem, and_self, and_true, true_and, and_false, false_and, hm]
        · simp (disch := first | assumption | omega | decide) only [x115_0, x115_1, x115_2, x115_3, x115_4, x115_5, x115_6, x115_7, x115_8, x115_9, x115_10, x115_11, x115_12, x115_13, x115_14, x115_15, ↓reduceIte, Option.toList, List.nil_append, List.cons_append, nI_add, pk_mul, n_and, n_or, n_xor, nI_leI, nI_ltI, nI_eq, n_z, uI_s, uI_n, bI_n0, bI_n1, bT, bF, if_true, if_false, not_true, not_false_eq_true, pk_div, pk_rem, Nat.reduceEqDiff, Nat.reduceLeDiff, Nat.reduceLT, Nat.reduceAdd, Nat.reduceMul, Nat.reduceSub, Nat.not_lt_zero, Nat.zero_le, reduceCtorEq, ite_self, n_rem, and_self, and_true, true_and, and_false, false_and, n_m1e, sp_txtC_ta hk w2 (tw_texts t1)]
    · intro I J T hM _
      have m : ∀ k, k < 1799 → I 90 k = nI (A k) := hM.1
      refine ⟨uI I 90 3 x, J, ⟨fun c k hc => by simp (disch := omega) only [uI_n], fun k hk => by simp (disch := omega) only [uI_n]⟩, ⟨by rw [eA, ev]; exact AtM_u hM.1, AtM_c hM.2.1 (fun k => uI_n (by omega)), (uI_n (by omega)).trans hM.2.2⟩, fun Q => ?_⟩
      simp (disch := first | assumption | omega | decide) only [x221_0, x221_1, x221_2, x221_3, x221_4, x221_5, x221_6, x221_7, x221_8, x221_9, x221_10, x221_11, x221_12, x221_13, x221_14, x221_15, x221_16, x221_17, x221_18, ↓reduceIte, Option.toList, List.nil_append, List.cons_append, nI_add, pk_mul, n_and, n_or, n_xor, nI_leI, nI_ltI, nI_eq, n_z, uI_s, uI_n, bI_n0, bI_n1, bT, bF, if_true, if_false, not_true, not_false_eq_true, pk_div, pk_rem, Nat.reduceEqDiff, Nat.reduceLeDiff, Nat.reduceLT, Nat.reduceAdd, Nat.reduceMul, Nat.reduceSub, Nat.not_lt_zero, Nat.zero_le, reduceCtorEq, ite_self, n_rem, and_self, and_true, true_and, and_false, false_and, sp_isIn, m, ↓by_t w2 hx]
  · have h1 : ¬ x = -1 := fun h => hx (Or.inl h)
    have h2 : ¬ inR x (A 2) := fun h => hx (Or.inr h)
    refine jtR w' (nI 0) ?_ ?_ <;> intro I J T Q hI
    · simp (disch := first | assumption | omega | decide) only [x115_0, x115_1, x115_2, x115_3, x115_4, x115_5, x115_6, x115_7, x115_8, x115_9, x115_10, x115_11, x115_12, x115_13, x115_14, x115_15, ↓reduceIte, Option.toList, List.nil_append, List.cons_append, nI_add, pk_mul, n_and, n_or, n_xor, nI_leI, nI_ltI, nI_eq, n_z, uI_s, uI_n, bI_n0, bI_n1, bT, bF, if_true, if_false, not_true, not_false_eq_true, pk_div, pk_rem, Nat.reduceEqDiff, Nat.reduceLeDiff, Nat.reduceLT, Nat.reduceAdd, Nat.reduceMul, Nat.reduceSub, Nat.not_lt_zero, Nat.zero_le, reduceCtorEq, ite_self, n_rem, and_self, and_true, true_and, and_false, false_and, h1, sp_txtC_fa h2 w2 (tw_texts hI.1)]
    · have m : ∀ k, k < 1799 → I 90 k = nI (A k) := hI.1
      simp (disch := first | assumption | omega | decide) only [x221_0, x221_1, x221_2, x221_3, x221_4, x221_5, x221_6, x221_7, x221_8, x221_9, x221_10, x221_11, x221_12, x221_13, x221_14, x221_15, x221_16, x221_17, x221_18, ↓reduceIte, Option.toList, List.nil_append, List.cons_append, nI_add, pk_mul, n_and, n_or, n_xor, nI_leI, nI_ltI, nI_eq, n_z, uI_s, uI_n, bI_n0, bI_n1, bT, bF, if_true, if_false, not_true, not_false_eq_true, pk_div, pk_rem, Nat.reduceEqDiff, Nat.reduceLeDiff, Nat.reduceLT, Nat.reduceAdd, Nat.reduceMul, Nat.reduceSub, Nat.not_lt_zero, Nat.zero_le, reduceCtorEq, ite_self, n_rem, and_self, and_true, true_and, and_false, false_and, sp_isIn, m, ↓by_f w2 h1 h2]
theorem jt_heard {x y : Int32} : Jt TX sc (d + 3) 147 288 [some (.ref 0), some (.int x), some (.int y)] [some (.ref 89), some (.int x), some (.int y)] := by
  intro A B M w _
  have w' := w
  obtain ⟨wA, wB, wt⟩ := w
  have w0 : A 0 ≤ 12 := wA.1.1
  have w1 : A 1 ≤ 4 := wA.1.2.1
  have w5 : A 5 ≤ 8 := wA.1.2.2.2.2.2.1
  by_cases hm : x = -1
  · obtain ⟨A', eA⟩ : ∃ X, X = upA A 5 0 := ⟨_, rfl⟩
    have fA : ∀ k, k ≠ 5 → A' k = A k := fun k hk => by rw [eA]; exact upA_n hk
    have f5 : A' 5 = 0 := by rw [eA, upA_s]
    have f1 : A' 1 = A 1 := fA 1 (by omega)
    have f2 : A' 2 = A 2 := fA 2 (by omega)
    have W1 : Wf1 A' := by
      obtain ⟨v0, v1, v2, v3, v4, -, v6⟩ := wA.1
      unfold Wf1
      rw [f5, fA 0 (by omega), fA 1 (by omega), fA 2 (by omega), fA 3 (by omega), fA 4 (by omega), fA 6 (by omega), fA 7 (by omega), fA 8 (by omega), fA 9 (by omega), fA 10 (by omega), fA 11 (by omega)]
      exact ⟨v0, v1, v2, v3, v4, by omega, v6⟩
    have W4 : Wf4 A' := by
      obtain ⟨v1, v2, v3⟩ := wA.2.2.2.1
      obtain ⟨u0, u1, u2, u3, u4, u5, u6, u7, -⟩ := wA.1
      refine ⟨?_, ?_, ?_⟩
      · intro j hj; rw [f5] at hj; omega
      · intro j hj; rw [fA 6 (by omega)] at hj; rw [fA _ (by omega)]; exact v2 j hj
      · intro j hj; rw [fA 7 (by omega)] at hj; rw [fA _ (by omega), fA _ (by omega), fA _ (by omega), fA _ (by omega)]; exact v3 j hj
    refine ⟨nI 0, A', B, ⟨⟨W1, (Wf2_c (fun k hk => fA k (by omega)) wA.2.1), (Wf3_c (fun k hk => fA k (by omega)) wA.1.1 wA.2.2.1), W4, (Wf5_c (fun k hk => fA k (by omega)) wA.1.2.2.2.2.1 wA.2.2.2.2)⟩, wB, by omega⟩, by omega, ?_, ?_⟩
    · intro I J T hC _
      obtain ⟨t1, t2, s1, s2, n1, n2⟩ := hC
      obtain ⟨I1, eI⟩ : ∃ X, X = uI I 32 2 (nI 0) := ⟨_, rfl⟩
      have fI : ∀ c k, c ≠ 32 ∨ k ≠ 2 → I1 c k = I c k := fun c k hk => by rw [eI]; exact uI_n hk
      obtain ⟨o1, o2, o3, o4, o5, o6⟩ := n1
      obtain ⟨u0, u1, u2, u3, u4, u5, u6, u7, -⟩ := wA.1
      refine ⟨I1, fun c k hc => fI c k (by omega), ⟨⟨(fun h hh => by rw [fI _ _ (by omega), fA _ (by omega)]; exact tw_rooms t1 hh), (fun h hh => by rw [fI _ _ (by omega), fA _ (by omega)]; exact tw_income t1 hh), (fun h hh => by rw [fI _ _ (by omega), bes_c (fun k hk => fA k (by omega)) w0]; exact tw_beside t1 hh), (fun r hr => by rw [f1] at hr; rw [fI _ _ (by omega), fA _ (by omega)]; exact tw_truth t1 hr), (fun r hr => by rw [f1] at hr; rw [fI _ _ (by omega), fA _ (by omega)]; exact tw_purse t1 hr), (fun r hr => by rw [f1] at hr; rw [fI _ _ (by omega), fA _ (by omega)]; exact tw_told t1 hr), (fun r hr => by rw [f1] at hr; rw [fI _ _ (by omega), kpr_c (fun h hh => fA _ (by omega))]; exact tw_keepers t1 hr), (fun h hh => by rw [fI _ _ (by omega), fA _ (by omega)]; exact tw_pages t1 hh), (by rw [fI _ _ (by omega), fA _ (by omega)]; exact tw_written t1), (by rw [fI _ _ (by omega), fA _ (by omega)]; exact tw_roads t1), (by rw [fI _ _ (by omega), fA _ (by omega)]; exact tw_rumours t1), (by rw [fI _ _ (by omega), fA _ (by omega)]; exact tw_day t1), (by rw [fI _ _ (by omega), fA _ (by omega)]; exact tw_x t1), (by rw [fI _ _ (by omega), fA _ (by omega)]; exact tw_paid t1), (by rw [fI _ _ (by omega), fA _ (by omega)]; exact tw_texts t1), (by rw [fI _ _ (by omega), fA _ (by omega)]; exact tw_ruling t1)⟩, Twn_c t2 (fun c k hc => fI c k (by omega)) (fun _ _ _ _ => rfl) ⟨wB.1.1, wB.1.2.1⟩, Stw_c s1 (fun c k hc => fI c k (by omega)) (fA 4 (by omega)) (fun k h1 h2 => fA k (by omega)) wA, Stw_c s2 (fun c k hc => fI c k (by omega)) rfl (fun _ _ _ => rfl) wB, ⟨by rw [eI, uI_s, f5], by rw [fI _ _ (by omega), fA _ (by omega)]; exact o2, by rw [fI _ _ (by omega), fA _ (by omega)]; exact o3, fun j hj => by omega, fun j hj => by rw [fA 6 (by omega)] at hj; rw [fI _ _ (by omega), fA _ (by omega)]; exact o5 j hj, fun j hj => by rw [fA 7 (by omega)] at hj; rw [fI _ _ (by omega), fI _ _ (by omega), fI _ _ (by omega), fA _ (by omega), fA _ (by omega), fA _ (by omega)]; exact o6 j hj⟩, Nts_c n2 (fun c k hc => fI c k (by omega)) (fun _ _ => rfl) wB.1⟩, fun Q => ?_⟩
      rw [eI]
      simp (disch := first | assumption | omega | decide) only [x147_0, x147_1, x147_2, x147_3, x147_4, x147_5, x147_6, x147_7, x147_8, x147_9, x147_10, x147_11, x147_12, x147_13, x147_14, x147_15, x147_16, x147_17, x147_18, x147_19, x147_20, x147_21, x147_22, x147_23, x147_24, x147_25, x147_26, x147_27, x147_28, x147_29, x147_30, x147_31, x147_32, x147_33, x147_34, x147_35, x147_36, x147_37, x147_38, x147_39, x147_40, x147_41, x147_42, x147_43, x147_44, x147_45, x147_46, x147_47, x147_48, x147_49, x147_50, ↓reduceIte, Option.toList, List.nil_append, List.cons_append, nI_add, pk_mul, n_and, n_or, n_xor, nI_leI, nI_ltI, nI_eq, n_z, uI_s, uI_n, bI_n0, bI_n1, bT, bF, if_true, if_false, not_true, not_false_eq_true, pk_div, pk_rem, Nat.reduceEqDiff, Nat.reduceLeDiff, Nat.reduceLT, Nat.reduceAdd, Nat.reduceMul, Nat.reduceSub, Nat.not_lt_zero, Nat.zero_le, reduceCtorEq, ite_self, n_rem, and_self, and_true, true_and, and_false, false_and, hm]
    · intro I J T hM _
      refine ⟨uI I 90 5 (nI 0), J, ⟨fun c k hc => by simp (disch := omega) only [uI_n], fun k hk => by simp (disch := omega) only [uI_n]⟩, ⟨by rw [eA]; exact AtM_u hM.1, AtM_c hM.2.1 (fun k => uI_n (by omega)), (uI_n (by omega)).trans hM.2.2⟩, fun Q => ?_⟩
      simp (disch := first | assumption | omega | decide) only [x288_0, x288_1, x288_2, x288_3, x288_4, x288_5, x288_6, x288_7, x288_8, x288_9, x288_10, x288_11, x288_12, x288_13, x288_14, x288_15, x288_16, x288_17, x288_18, x288_19, x288_20, x288_21, x288_22, x288_23, x288_24, x288_25, x288_26, x288_27, x288_28, x288_29, x288_30, x288_31, x288_32, x288_33, x288_34, x288_35, x288_36, x288_37, x288_38, x288_39, x288_40, x288_41, x288_42, x288_43, x288_44, x288_45, x288_46, x288_47, x288_48, x288_49, x288_50, x288_51, x288_52, x288_53, x288_54, x288_55, x288_56, x288_57, x288_58, x288_59, x288_60, x288_61, x288_62, x288_63, x288_64, ↓reduceIte, Option.toList, List.nil_append, List.cons_append, nI_add, pk_mul, n_and, n_or, n_xor, nI_leI, nI_ltI, nI_eq, n_z, uI_s, uI_n, bI_n0, bI_n1, bT, bF, if_true, if_false, not_true, not_false_eq_true, pk_div, pk_rem, Nat.reduceEqDiff, Nat.reduceLeDiff, Nat.reduceLT, Nat.reduceAdd, Nat.reduceMul, Nat.reduceSub, Nat.not_lt_zero, Nat.zero_le, reduceCtorEq, ite_self, n_rem, and_self, and_true, true_and, and_false, false_and, hm]
  · by_cases hx : inR x 8
    · obtain ⟨a, ha, rfl⟩ := hx
      by_cases hy : inR y 100
      · obtain ⟨b, hb, rfl⟩ := hy
        by_cases h8 : A 5 = 8
        · refine jtR w' (-2) ?_ ?_ <;> intro I J T Q hI
          · simp (disch := first | assumption | omega | decide) only [x147_0, x147_1, x147_2, x147_3, x147_4, x147_5, x147_6, x147_7, x147_8, x147_9, x147_10, x147_11, x147_12, x147_13, x147_14, x147_15, x147_16, x147_17, x147_18, x147_19, x147_20, x147_21, x147_22, x147_23, x147_24, x147_25, x147_26, x147_27, x147_28, x147_29, x147_30, x147_31, x147_32, x147_33, x147_34, x147_35, x147_36, x147_37, x147_38, x147_39, x147_40, x147_41, x147_42, x147_43, x147_44, x147_45, x147_46, x147_47, x147_48, x147_49, x147_50, ↓reduceIte, Option.toList, List.nil_append, List.cons_append, nI_add, pk_mul, n_and, n_or, n_xor, nI_leI, nI_ltI, nI_eq, n_z, uI_s, uI_n, bI_n0, bI_n1, bT, bF, if_true, if_false, not_true, not_false_eq_true, pk_div, pk_rem, Nat.reduceEqDiff, Nat.reduceLeDiff, Nat.reduceLT, Nat.reduceAdd, Nat.reduceMul, Nat.reduceSub, Nat.not_lt_zero, Nat.zero_le, reduceCtorEq, ite_self, n_rem, and_self, and_true, true_and, and_false, false_and, hm, sp_houC_t, sp_isWithin, ↓in_t, hI.2.2.2.2.1.1, h8]
          · simp (disch := first | assumption | omega | decide) only [x288_0, x288_1, x288_2, x288_3, x288_4, x288_5, x288_6, x288_7, x288_8, x288_9, x288_10, x288_11, x288_12, x288_13, x288_14, x288_15, x288_16, x288_17, x288_18, x288_19, x288_20, x288_21, x288_22, x288_23, x288_24, x288_25, x288_26, x288_27, x288_28, x288_29, x288_30, x288_31, x288_32, x288_33, x288_34, x288_35, x288_36, x288_37, x288_38, x288_39, x288_40, x288_41, x288_42, x288_43, x288_44, x288_45, x288_46, x288_47, x288_48, x288_49, x288_50, x288_51, x288_52, x288_53, x288_54, x288_55, x288_56, x288_57, x288_58, x288_59, x288_60, x288_61, x288_62, x288_63, x288_64, ↓reduceIte, Option.toList, List.nil_append, List.cons_append, nI_add, pk_mul, n_and, n_or, n_xor, nI_leI, nI_ltI, nI_eq, n_z, uI_s, uI_n, bI_n0, bI_n1, bT, bF, if_true, if_false, not_true, not_false_eq_true, pk_div, pk_rem, Nat.reduceEqDiff, Nat.reduceLeDiff, Nat.reduceLT, Nat.reduceAdd, Nat.reduceMul, Nat.reduceSub, Nat.not_lt_zero, Nat.zero_le, reduceCtorEq, ite_self, n_rem, and_self, and_true, true_and, and_false, false_and, hm, sp_houM_t, sp_isIn, ↓in_t, hI.1 5 (by decide), h8]
        · have h8' : A 5 < 8 := by omega
          obtain ⟨A', eA⟩ : ∃ X, X = upA (upA (upA A (72 + 2 * A 5) a) (72 + 2 * A 5 + 1) b) 5 (A 5 + 1) := ⟨_, rfl⟩
          have fA : ∀ k, (k ≠ 72 + 2 * A 5 ∧ k ≠ 72 + 2 * A 5 + 1 ∧ k ≠ 5) → A' k = A k := fun k ⟨h1, h2, h3⟩ => by rw [eA, upA_n h3, upA_n h2, upA_n h1]
          have f5 : A' 5 = A 5 + 1 := by rw [eA, upA_s]
          have e1 : A' (72 + 2 * A 5) = a := by rw [eA, upA_n (by omega), upA_n (by omega), upA_s]
          have e2 : A' (72 + 2 * A 5 + 1) = b := by rw [eA, upA_n (by omega), upA_s]
          have f1 : A' 1 = A 1 := fA 1 (by omega)
          have f2 : A' 2 = A 2 := fA 2 (by omega)
          have W1 : Wf1 A' := by
            obtain ⟨v0, v1, v2, v3, v4, -, v6⟩ := wA.1
            unfold Wf1
            rw [f5, fA 0 (by omega), fA 1 (by omega), fA 2 (by omega), fA 3 (by omega), fA 4 (by omega), fA 6 (by omega), fA 7 (by omega), fA 8 (by omega), fA 9 (by omega), fA 10 (by omega), fA 11 (by omega)]
            exact ⟨v0, v1, v2, v3, v4, by omega, v6⟩
          have W4 : Wf4 A' := by
            obtain ⟨v1, v2, v3⟩ := wA.2.2.2.1
            obtain ⟨u0, u1, u2, u3, u4, u5, u6, u7, -⟩ := wA.1
            refine ⟨?_, ?_, ?_⟩
            · intro j hj
              by_cases e : j = A 5
              · subst e; rw [e1, e2]; omega
              · rw [fA _ (by omega), fA _ (by omega)]; exact v1 j (by omega)
            · intro j hj; rw [fA 6 (by omega)] at hj; rw [fA _ (by omega)]; exact v2 j hj
            · intro j hj; rw [fA 7 (by omega)] at hj; rw [fA _ (by omega), fA _ (by omega), fA _ (by omega), fA _ (by omega)]; exact v3 j hj
          refine ⟨nI (A 5 + 1), A', B, ⟨⟨W1, (Wf2_c (fun k hk => fA k (by omega)) wA.2.1), (Wf3_c (fun k hk => fA k (by omega)) wA.1.1 wA.2.2.1), W4, (Wf5_c (fun k hk => fA k (by omega)) wA.1.2.2.2.2.1 wA.2.2.2.2)⟩, wB, by omega⟩, by omega, ?_, ?_⟩
          · intro I J T hC _
            obtain ⟨t1, t2, s1, s2, n1, n2⟩ := hC
            obtain ⟨I1, eI⟩ : ∃ X, X = uI (uI (uI I 33 (A 5) (nI a)) 34 (A 5) (nI b)) 32 2 (nI (A 5 + 1)) := ⟨_, rfl⟩
            have fI : ∀ c k, ((c ≠ 33 ∧ c ≠ 34) ∨ k ≠ A 5) ∧ (c ≠ 32 ∨ k ≠ 2) → I1 c k = I c k := fun c k hk => by rw [eI, uI_n (by omega), uI_n (by omega), uI_n (by omega)]
            obtain ⟨o1, o2, o3, o4, o5, o6⟩ := n1
            obtain ⟨u0, u1, u2, u3, u4, u5, u6, u7, -⟩ := wA.1
            refine ⟨I1, fun c k hc => fI c k (by omega), ⟨⟨(fun h hh => by rw [fI _ _ (by omega), fA _ (by omega)]; exact tw_rooms t1 hh), (fun h hh => by rw [fI _ _ (by omega), fA _ (by omega)]; exact tw_income t1 hh), (fun h hh => by rw [fI _ _ (by omega), bes_c (fun k hk => fA k (by omega)) w0]; exact tw_beside t1 hh), (fun r hr => by rw [f1] at hr; rw [fI _ _ (by omega), fA _ (by omega)]; exact tw_truth t1 hr), (fun r hr => by rw [f1] at hr; rw [fI _ _ (by omega), fA _ (by omega)]; exact tw_purse t1 hr), (fun r hr => by rw [f1] at hr; rw [fI _ _ (by omega), fA _ (by omega)]; exact tw_told t1 hr), (fun r hr => by rw [f1] at hr; rw [fI _ _ (by omega), kpr_c (fun h hh => fA _ (by omega))]; exact tw_keepers t1 hr), (fun h hh => by rw [fI _ _ (by omega), fA _ (by omega)]; exact tw_pages t1 hh), (by rw [fI _ _ (by omega), fA _ (by omega)]; exact tw_written t1), (by rw [fI _ _ (by omega), fA _ (by omega)]; exact tw_roads t1), (by rw [fI _ _ (by omega), fA _ (by omega)]; exact tw_rumours t1), (by rw [fI _ _ (by omega), fA _ (by omega)]; exact tw_day t1), (by rw [fI _ _ (by omega), fA _ (by omega)]; exact tw_x t1), (by rw [fI _ _ (by omega), fA _ (by omega)]; exact tw_paid t1), (by rw [fI _ _ (by omega), fA _ (by omega)]; exact tw_texts t1), (by rw [fI _ _ (by omega), fA _ (by omega)]; exact tw_ruling t1)⟩, Twn_c t2 (fun c k hc => fI c k (by omega)) (fun _ _ _ _ => rfl) ⟨wB.1.1, wB.1.2.1⟩, Stw_c s1 (fun c k hc => fI c k (by omega)) (fA 4 (by omega)) (fun k h1 h2 => fA k (by omega)) wA, Stw_c s2 (fun c k hc => fI c k (by omega)) rfl (fun _ _ _ => rfl) wB, ⟨by rw [eI, uI_s, f5], by rw [fI _ _ (by omega), fA _ (by omega)]; exact o2, by rw [fI _ _ (by omega), fA _ (by omega)]; exact o3, ?_, fun j hj => by rw [fA 6 (by omega)] at hj; rw [fI _ _ (by omega), fA _ (by omega)]; exact o5 j hj, fun j hj => by rw [fA 7 (by omega)] at hj; rw [fI _ _ (by omega), fI _ _ (by omega), fI _ _ (by omega), fA _ (by omega), fA _ (by omega), fA _ (by omega)]; exact o6 j hj⟩, Nts_c n2 (fun c k hc => fI c k (by omega)) (fun _ _ => rfl) wB.1⟩, fun Q => ?_⟩
            · intro j hj
              by_cases e : j = A 5
              · subst e
                rw [e1, e2, eI, uI_n (by omega), uI_n (by omega), uI_s, uI_n (by omega), uI_s]
                exact ⟨rfl, rfl⟩
              · rw [fI _ _ (by omega), fI _ _ (by omega), fA _ (by omega), fA _ (by omega)]
                exact o4 j (by omega)
            · rw [eI]
              simp (disch := first | assumption | omega | decide) only [x147_0, x147_1, x147_2, x147_3, x147_4, x147_5, x147_6, x147_7, x147_8, x147_9, x147_10, x147_11, x147_12, x147_13, x147_14, x147_15, x147_16, x147_17, x147_18, x147_19, x147_20, x147_21, x147_22, x147_23, x147_24, x147_25, x147_26, x147_27, x147_28, x147_29, x147_30, x147_31, x147_32, x147_33, x147_34, x147_35, x147_36, x147_37, x147_38, x147_39, x147_40, x147_41, x147_42, x147_43, x147_44, x147_45, x147_46, x147_47, x147_48, x147_49, x147_50, ↓reduceIte, Option.toList, List.nil_append, List.cons_append, nI_add, pk_mul, n_and, n_or, n_xor, nI_leI, nI_ltI, nI_eq, n_z, uI_s, uI_n, bI_n0, bI_n1, bT, bF, if_true, if_false, not_true, not_false_eq_true, pk_div, pk_rem, Nat.reduceEqDiff, Nat.reduceLeDiff, Nat.reduceLT, Nat.reduceAdd, Nat.reduceMul, Nat.reduceSub, Nat.not_lt_zero, Nat.zero_le, reduceCtorEq, ite_self, n_rem, and_self, and_true, true_and, and_false, false_and, hm, sp_houC_t, sp_isWithin, ↓in_t, o1, h8']
          · intro I J T hM _
            have m : ∀ k, k < 1799 → I 90 k = nI (A k) := hM.1
            refine ⟨uI (uI (uI I 90 (72 + 2 * A 5) (nI a)) 90 (72 + 2 * A 5 + 1) (nI b)) 90 5 (nI (A 5 + 1)), J, ⟨fun c k hc => by simp (disch := omega) only [uI_n], fun k hk => by simp (disch := omega) only [uI_n]⟩, ⟨by rw [eA]; exact AtM_u (AtM_u (AtM_u hM.1)), AtM_c hM.2.1 (fun k => by simp (disch := omega) only [uI_n]), by simp (disch := omega) only [uI_n]; exact hM.2.2⟩, fun Q => ?_⟩
            simp (disch := first | assumption | omega | decide) only [x288_0, x288_1, x288_2, x288_3, x288_4, x288_5, x288_6, x288_7, x288_8, x288_9, x288_10, x288_11, x288_12, x288_13, x288_14, x288_15, x288_16, x288_17, x288_18, x288_19, x288_20, x288_21, x288_22, x288_23, x288_24, x288_25, x288_26, x288_27, x288_28, x288_29, x288_30, x288_31, x288_32, x288_33, x288_34, x288_35, x288_36, x288_37, x288_38, x288_39, x288_40, x288_41, x288_42, x288_43, x288_44, x288_45, x288_46, x288_47, x288_48, x288_49, x288_50, x288_51, x288_52, x288_53, x288_54, x288_55, x288_56, x288_57, x288_58, x288_59, x288_60, x288_61, x288_62, x288_63, x288_64, ↓reduceIte, Option.toList, List.nil_append, List.cons_append, nI_add, pk_mul, n_and, n_or, n_xor, nI_leI, nI_ltI, nI_eq, n_z, uI_s, uI_n, bI_n0, bI_n1, bT, bF, if_true, if_false, not_true, not_false_eq_true, pk_div, pk_rem, Nat.reduceEqDiff, Nat.reduceLeDiff, Nat.reduceLT, Nat.reduceAdd, Nat.reduceMul, Nat.reduceSub, Nat.not_lt_zero, Nat.zero_le, reduceCtorEq, ite_self, n_rem, and_self, and_true, true_and, and_false, false_and, hm, sp_houM_t, sp_isIn, ↓in_t, m, h8]
      · refine jtR w' (-2) ?_ ?_ <;> intro I J T Q hI
        · simp (disch := first | assumption | omega | decide) only [x147_0, x147_1, x147_2, x147_3, x147_4, x147_5, x147_6, x147_7, x147_8, x147_9, x147_10, x147_11, x147_12, x147_13, x147_14, x147_15, x147_16, x147_17, x147_18, x147_19, x147_20, x147_21, x147_22, x147_23, x147_24, x147_25, x147_26, x147_27, x147_28, x147_29, x147_30, x147_31, x147_32, x147_33, x147_34, x147_35, x147_36, x147_37, x147_38, x147_39, x147_40, x147_41, x147_42, x147_43, x147_44, x147_45, x147_46, x147_47, x147_48, x147_49, x147_50, ↓reduceIte, Option.toList, List.nil_append, List.cons_append, nI_add, pk_mul, n_and, n_or, n_xor, nI_leI, nI_ltI, nI_eq, n_z, uI_s, uI_n, bI_n0, bI_n1, bT, bF, if_true, if_false, not_true, not_false_eq_true, pk_div, pk_rem, Nat.reduceEqDiff, Nat.reduceLeDiff, Nat.reduceLT, Nat.reduceAdd, Nat.reduceMul, Nat.reduceSub, Nat.not_lt_zero, Nat.zero_le, reduceCtorEq, ite_self, n_rem, and_self, and_true, true_and, and_false, false_and, hm, sp_houC_t, sp_isWithin, ↓in_f hy]
        · simp (disch := first | assumption | omega | decide) only [x288_0, x288_1, x288_2, x288_3, x288_4, x288_5, x288_6, x288_7, x288_8, x288_9, x288_10, x288_11, x288_12, x288_13, x288_14, x288_15, x288_16, x288_17, x288_18, x288_19, x288_20, x288_21, x288_22, x288_23, x288_24, x288_25, x288_26, x288_27, x288_28, x288_29, x288_30, x288_31, x288_32, x288_33, x288_34, x288_35, x288_36, x288_37, x288_38, x288_39, x288_40, x288_41, x288_42, x288_43, x288_44, x288_45, x288_46, x288_47, x288_48, x288_49, x288_50, x288_51, x288_52, x288_53, x288_54, x288_55, x288_56, x288_57, x288_58, x288_59, x288_60, x288_61, x288_62, x288_63, x288_64, ↓reduceIte, Option.toList, List.nil_append, List.cons_append, nI_add, pk_mul, n_and, n_or, n_xor, nI_leI, nI_ltI, nI_eq, n_z, uI_s, uI_n, bI_n0, bI_n1, bT, bF, if_true, if_false, not_true, not_false_eq_true, pk_div, pk_rem, Nat.reduceEqDiff, Nat.reduceLeDiff, Nat.reduceLT, Nat.reduceAdd, Nat.reduceMul, Nat.reduceSub, Nat.not_lt_zero, Nat.zero_le, reduceCtorEq, ite_self, n_rem, and_self, and_true, true_and, and_false, false_and, hm, sp_houM_t, sp_isIn, ↓in_f hy]
    · refine jtR w' (-2) ?_ ?_ <;> intro I J T Q hI
      · simp (disch := first | assumption | omega | decide) only [x147_0, x147_1, x147_2, x147_3, x147_4, x147_5, x147_6, x147_7, x147_8, x147_9, x147_10, x147_11, x147_12, x147_13, x147_14, x147_15, x147_16, x147_17, x147_18, x147_19, x147_20, x147_21, x147_22, x147_23, x147_24, x147_25, x147_26, x147_27, x147_28, x147_29, x147_30, x147_31, x147_32, x147_33, x147_34, x147_35, x147_36, x147_37, x147_38, x147_39, x147_40, x147_41, x147_42, x147_43, x147_44, x147_45, x147_46, x147_47, x147_48, x147_49, x147_50, ↓reduceIte, Option.toList, List.nil_append, List.cons_append, nI_add, pk_mul, n_and, n_or, n_xor, nI_leI, nI_ltI, nI_eq, n_z, uI_s, uI_n, bI_n0, bI_n1, bT, bF, if_true, if_false, not_true, not_false_eq_true, pk_div, pk_rem, Nat.reduceEqDiff, Nat.reduceLeDiff, Nat.reduceLT, Nat.reduceAdd, Nat.reduceMul, Nat.reduceSub, Nat.not_lt_zero, Nat.zero_le, reduceCtorEq, ite_self, n_rem, and_self, and_true, true_and, and_false, false_and, hm, sp_houC_f hx]
      · simp (disch := first | assumption | omega | decide) only [x288_0, x288_1, x288_2, x288_3, x288_4, x288_5, x288_6, x288_7, x288_8, x288_9, x288_10, x288_11, x288_12, x288_13, x288_14, x288_15, x288_16, x288_17, x288_18, x288_19, x288_20, x288_21, x288_22, x288_23, x288_24, x288_25, x288_26, x288_27, x288_28, x288_29, x288_30, x288_31, x288_32, x288_33, x288_34, x288_35, x288_36, x288_37, x288_38, x288_39, x288_40, x288_41, x288_42, x288_43, x288_44, x288_45, x288_46, x288_47, x288_48, x288_49, x288_50, x288_51, x288_52, x288_53, x288_54, x288_55, x288_56, x288_57, x288_58, x288_59, x288_60, x288_61, x288_62, x288_63, x288_64, ↓reduceIte, Option.toList, List.nil_append, List.cons_append, nI_add, pk_mul, n_and, n_or, n_xor, nI_leI, nI_ltI, nI_eq, n_z, uI_s, uI_n, bI_n0, bI_n1, bT, bF, if_true, if_false, not_true, not_false_eq_true, pk_div, pk_rem, Nat.reduceEqDiff, Nat.reduceLeDiff, Nat.reduceLT, Nat.reduceAdd, Nat.reduceMul, Nat.reduceSub, Nat.not_lt_zero, Nat.zero_le, reduceCtorEq, ite_self, n_rem, and_self, and_true, true_and, and_false, false_and, hm, sp_houM_f hx]
theorem jt_pack {x : Int32} : Jt TX sc (d + 3) 151 297 [some (.ref 0), some (.int x)] [some (.ref 89), some (.int x)] := by
  intro A B M w _
  have w' := w
  obtain ⟨wA, wB, wt⟩ := w
  have w0 : A 0 ≤ 12 := wA.1.1
  have w1 : A 1 ≤ 4 := wA.1.2.1
  have w6 : A 6 ≤ 7 := wA.1.2.2.2.2.2.2.1
  by_cases hm : x = -1
  · obtain ⟨A', eA⟩ : ∃ X, X = upA A 6 0 := ⟨_, rfl⟩
    have fA : ∀ k, k ≠ 6 → A' k = A k := fun k hk => by rw [eA]; exact upA_n hk
    have f6 : A' 6 = 0 := by rw [eA, upA_s]
    have f1 : A' 1 = A 1 := fA 1 (by omega)
    have f2 : A' 2 = A 2 := fA 2 (by omega)
    have W1 : Wf1 A' := by
      obtain ⟨v0, v1, v2, v3, v4, v5, -, v7⟩ := wA.1
      unfold Wf1
      rw [f6, fA 0 (by omega), fA 1 (by omega), fA 2 (by omega), fA 3 (by omega), fA 4 (by omega), fA 5 (by omega), fA 7 (by omega), fA 8 (by omega), fA 9 (by omega), fA 10 (by omega), fA 11 (by omega)]
      exact ⟨v0, v1, v2, v3, v4, v5, by omega, v7⟩
    have W4 : Wf4 A' := by
      obtain ⟨v1, v2, v3⟩ := wA.2.2.2.1
      obtain ⟨u0, u1, u2, u3, u4, u5, u6, u7, -⟩ := wA.1
      refine ⟨?_, ?_, ?_⟩
      · intro j hj; rw [fA 5 (by omega)] at hj; rw [fA _ (by omega), fA _ (by omega)]; exact v1 j hj
      · intro j hj; rw [f6] at hj; omega
      · intro j hj; rw [fA 7 (by omega)] at hj; rw [fA _ (by omega), fA _ (by omega), fA _ (by omega), fA _ (by omega)]; exact v3 j hj
    refine ⟨nI 0, A', B, ⟨⟨W1, (Wf2_c (fun k hk => fA k (by omega)) wA.2.1), (Wf3_c (fun k hk => fA k (by omega)) wA.1.1 wA.2.2.1), W4, (Wf5_c (fun k hk => fA k (by omega)) wA.1.2.2.2.2.1 wA.2.2.2.2)⟩, wB, by omega⟩, by omega, ?_, ?_⟩
    · intro I J T hC _
      obtain ⟨t1, t2, s1, s2, n1, n2⟩ := hC
      obtain ⟨I1, eI⟩ : ∃ X, X = uI I 32 4 (nI 0) := ⟨_, rfl⟩
      have fI : ∀ c k, c ≠ 32 ∨ k ≠ 4 → I1 c k = I c k := fun c k hk => by rw [eI]; exact uI_n hk
      obtain ⟨o1, o2, o3, o4, o5, o6⟩ := n1
      obtain ⟨u0, u1, u2, u3, u4, u5, u6, u7, -⟩ := wA.1
      refine ⟨I1, fun c k hc => fI c k (by omega), ⟨⟨(fun h hh => by rw [fI _ _ (by omega), fA _ (by omega)]; exact tw_rooms t1 hh), (fun h hh => by rw [fI _ _ (by omega), fA _ (by omega)]; exact tw_income t1 hh), (fun h hh => by rw [fI _ _ (by omega), bes_c (fun k hk => fA k (by omega)) w0]; exact tw_beside t1 hh), (fun r hr => by rw [f1] at hr; rw [fI _ _ (by omega), fA _ (by omega)]; exact tw_truth t1 hr), (fun r hr => by rw [f1] at hr; rw [fI _ _ (by omega), fA _ (by omega)]; exact tw_purse t1 hr), (fun r hr => by rw [f1] at hr; rw [fI _ _ (by omega), fA _ (by omega)]; exact tw_told t1 hr), (fun r hr => by rw [f1] at hr; rw [fI _ _ (by omega), kpr_c (fun h hh => fA _ (by omega))]; exact tw_keepers t1 hr), (fun h hh => by rw [fI _ _ (by omega), fA _ (by omega)]; exact tw_pages t1 hh), (by rw [fI _ _ (by omega), fA _ (by omega)]; exact tw_written t1), (by rw [fI _ _ (by omega), fA _ (by omega)]; exact tw_roads t1), (by rw [fI _ _ (by omega), fA _ (by omega)]; exact tw_rumours t1), (by rw [fI _ _ (by omega), fA _ (by omega)]; exact tw_day t1), (by rw [fI _ _ (by omega), fA _ (by omega)]; exact tw_x t1), (by rw [fI _ _ (by omega), fA _ (by omega)]; exact tw_paid t1), (by rw [fI _ _ (by omega), fA _ (by omega)]; exact tw_texts t1), (by rw [fI _ _ (by omega), fA _ (by omega)]; exact tw_ruling t1)⟩, Twn_c t2 (fun c k hc => fI c k (by omega)) (fun _ _ _ _ => rfl) ⟨wB.1.1, wB.1.2.1⟩, Stw_c s1 (fun c k hc => fI c k (by omega)) (fA 4 (by omega)) (fun k h1 h2 => fA k (by omega)) wA, Stw_c s2 (fun c k hc => fI c k (by omega)) rfl (fun _ _ _ => rfl) wB, ⟨by rw [fI _ _ (by omega), fA _ (by omega)]; exact o1, by rw [eI, uI_s, f6], by rw [fI _ _ (by omega), fA _ (by omega)]; exact o3, fun j hj => by rw [fA 5 (by omega)] at hj; rw [fI _ _ (by omega), fI _ _ (by omega), fA _ (by omega), fA _ (by omega)]; exact o4 j hj, fun j hj => by omega, fun j hj => by rw [fA 7 (by omega)] at hj; rw [fI _ _ (by omega), fI _ _ (by omega), fI _ _ (by omega), fA _ (by omega), fA _ (by omega), fA _ (by omega)]; exact o6 j hj⟩, Nts_c n2 (fun c k hc => fI c k (by omega)) (fun _ _ => rfl) wB.1⟩, fun Q => ?_⟩
      rw [eI]
      simp (disch := first | assumption | omega | decide) only [x151_0, x151_1, x151_2, x151_3, x151_4, x151_5, x151_6, x151_7, x151_8, x151_9, x151_10, x151_11, x151_12, x151_13, x151_14, x151_15, x151_16, x151_17, x151_18, x151_19, x151_20, x151_21, x151_22, x151_23, x151_24, x151_25, x151_26, x151_27, x151_28, x151_29, x151_30, x151_31, x151_32, x151_33, x151_34, x151_35, x151_36, x151_37, x151_38, x151_39, ↓reduceIte, Option.toList, List.nil_append, List.cons_append, nI_add, pk_mul, n_and, n_or, n_xor, nI_leI, nI_ltI, nI_eq, n_z, uI_s, uI_n, bI_n0, bI_n1, bT, bF, if_true, if_false, not_true, not_false_eq_true, pk_div, pk_rem, Nat.reduceEqDiff, Nat.reduceLeDiff, Nat.reduceLT, Nat.reduceAdd, Nat.reduceMul, Nat.reduceSub, Nat.not_lt_zero, Nat.zero_le, reduceCtorEq, ite_self, n_rem, and_self, and_true, true_and, and_false, false_and, hm]
    · intro I J T hM _
      refine ⟨uI I 90 6 (nI 0), J, ⟨fun c k hc => by simp (disch := omega) only [uI_n], fun k hk => by simp (disch := omega) only [uI_n]⟩, ⟨by rw [eA]; exact AtM_u hM.1, AtM_c hM.2.1 (fun k => uI_n (by omega)), (uI_n (by omega)).trans hM.2.2⟩, fun Q => ?_⟩
      simp (disch := first | assumption | omega | decide) only [x297_0, x297_1, x297_2, x297_3, x297_4, x297_5, x297_6, x297_7, x297_8, x297_9, x297_10, x297_11, x297_12, x297_13, x297_14, x297_15, x297_16, x297_17, x297_18, x297_19, x297_20, x297_21, x297_22, x297_23, x297_24, x297_25, x297_26, x297_27, x297_28, x297_29, x297_30, x297_31, x297_32, x297_33, x297_34, x297_35, x297_36, x297_37, x297_38, x297_39, x297_40, x297_41, x297_42, x297_43, x297_44, x297_45, ↓reduceIte, Option.toList, List.nil_append, List.cons_append, nI_add, pk_mul, n_and, n_or, n_xor, nI_leI, nI_ltI, nI_eq, n_z, uI_s, uI_n, bI_n0, bI_n1, bT, bF, if_true, if_false, not_true, not_false_eq_true, pk_div, pk_rem, Nat.reduceEqDiff, Nat.reduceLeDiff, Nat.reduceLT, Nat.reduceAdd, Nat.reduceMul, Nat.reduceSub, Nat.not_lt_zero, Nat.zero_le, reduceCtorEq, ite_self, n_rem, and_self, and_true, true_and, and_false, false_and, hm]
  · by_cases hx : inR x 5
    · obtain ⟨a, ha, rfl⟩ := hx
      by_cases ha1 : a = 0
      · subst ha1
        refine jtR w' (-2) ?_ ?_ <;> intro I J T Q hI
        · simp (disch := first | assumption | omega | decide) only [x151_0, x151_1, x151_2, x151_3, x151_4, x151_5, x151_6, x151_7, x151_8, x151_9, x151_10, x151_11, x151_12, x151_13, x151_14, x151_15, x151_16, x151_17, x151_18, x151_19, x151_20, x151_21, x151_22, x151_23, x151_24, x151_25, x151_26, x151_27, x151_28, x151_29, x151_30, x151_31, x151_32, x151_33, x151_34, x151_35, x151_36, x151_37, x151_38, x151_39, ↓reduceIte, Option.toList, List.nil_append, List.cons_append, nI_add, pk_mul, n_and, n_or, n_xor, nI_leI, nI_ltI, nI_eq, n_z, uI_s, uI_n, bI_n0, bI_n1, bT, bF, if_true, if_false, not_true, not_false_eq_true, pk_div, pk_rem, Nat.reduceEqDiff, Nat.reduceLeDiff, Nat.reduceLT, Nat.reduceAdd, Nat.reduceMul, Nat.reduceSub, Nat.not_lt_zero, Nat.zero_le, reduceCtorEq, ite_self, n_rem, and_self, and_true, true_and, and_false, false_and, hm, sp_isWithin, ↓in_l]
        · simp (disch := first | assumption | omega | decide) only [x297_0, x297_1, x297_2, x297_3, x297_4, x297_5, x297_6, x297_7, x297_8, x297_9, x297_10, x297_11, x297_12, x297_13, x297_14, x297_15, x297_16, x297_17, x297_18, x297_19, x297_20, x297_21, x297_22, x297_23, x297_24, x297_25, x297_26, x297_27, x297_28, x297_29, x297_30, x297_31, x297_32, x297_33, x297_34, x297_35, x297_36, x297_37, x297_38, x297_39, x297_40, x297_41, x297_42, x297_43, x297_44, x297_45, ↓reduceIte, Option.toList, List.nil_append, List.cons_append, nI_add, pk_mul, n_and, n_or, n_xor, nI_leI, nI_ltI, nI_eq, n_z, uI_s, uI_n, bI_n0, bI_n1, bT, bF, if_true, if_false, not_true, not_false_eq_true, pk_div, pk_rem, Nat.reduceEqDiff, Nat.reduceLeDiff, Nat.reduceLT, Nat.reduceAdd, Nat.reduceMul, Nat.reduceSub, Nat.not_lt_zero, Nat.zero_le, reduceCtorEq, ite_self, n_rem, and_self, and_true, true_and, and_false, false_and, hm, sp_isIn, ↓in_l]
      · by_cases h8 : A 6 = 7
        · refine jtR w' (-2) ?_ ?_ <;> intro I J T Q hI
          · simp (disch := first | assumption | omega | decide) only [x151_0, x151_1, x151_2, x151_3, x151_4, x151_5, x151_6, x151_7, x151_8, x151_9, x151_10, x151_11, x151_12, x151_13, x151_14, x151_15, x151_16, x151_17, x151_18, x151_19, x151_20, x151_21, x151_22, x151_23, x151_24, x151_25, x151_26, x151_27, x151_28, x151_29, x151_30, x151_31, x151_32, x151_33, x151_34, x151_35, x151_36, x151_37, x151_38, x151_39, ↓reduceIte, Option.toList, List.nil_append, List.cons_append, nI_add, pk_mul, n_and, n_or, n_xor, nI_leI, nI_ltI, nI_eq, n_z, uI_s, uI_n, bI_n0, bI_n1, bT, bF, if_true, if_false, not_true, not_false_eq_true, pk_div, pk_rem, Nat.reduceEqDiff, Nat.reduceLeDiff, Nat.reduceLT, Nat.reduceAdd, Nat.reduceMul, Nat.reduceSub, Nat.not_lt_zero, Nat.zero_le, reduceCtorEq, ite_self, n_rem, and_self, and_true, true_and, and_false, false_and, hm, sp_isWithin, ↓in_t, hI.2.2.2.2.1.2.1, h8]
          · simp (disch := first | assumption | omega | decide) only [x297_0, x297_1, x297_2, x297_3, x297_4, x297_5, x297_6, x297_7, x297_8, x297_9, x297_10, x297_11, x297_12, x297_13, x297_14, x297_15, x297_16, x297_17, x297_18, x297_19, x297_20, x297_21, x297_22, x297_23, x297_24, x297_25, x297_26, x297_27, x297_28, x297_29, x297_30, x297_31, x297_32, x297_33, x297_34, x297_35, x297_36, x297_37, x297_38, x297_39, x297_40, x297_41, x297_42, x297_43, x297_44, x297_45, ↓reduceIte, Option.toList, List.nil_append, List.cons_append, nI_add, pk_mul, n_and, n_or, n_xor, nI_leI, nI_ltI, nI_eq, n_z, uI_s, uI_n, bI_n0, bI_n1, bT, bF, if_true, if_false, not_true, not_false_eq_true, pk_div, pk_rem, Nat.reduceEqDiff, Nat.reduceLeDiff, Nat.reduceLT, Nat.reduceAdd, Nat.reduceMul, Nat.reduceSub, Nat.not_lt_zero, Nat.zero_le, reduceCtorEq, ite_self, n_rem, and_self, and_true, true_and, and_false, false_and, hm, sp_isIn, ↓in_t, hI.1 6 (by decide), h8]
        · have h8' : A 6 < 7 := by omega
          obtain ⟨A', eA⟩ : ∃ X, X = upA (upA A (88 + A 6) a) 6 (A 6 + 1) := ⟨_, rfl⟩
          have fA : ∀ k, (k ≠ 88 + A 6 ∧ k ≠ 6) → A' k = A k := fun k ⟨h1, h2⟩ => by rw [eA, upA_n h2, upA_n h1]
          have f6 : A' 6 = A 6 + 1 := by rw [eA, upA_s]
          have e1 : A' (88 + A 6) = a := by rw [eA, upA_n (by omega), upA_s]
          have f1 : A' 1 = A 1 := fA 1 (by omega)
          have f2 : A' 2 = A 2 := fA 2 (by omega)
          have W1 : Wf1 A' := by
            obtain ⟨v0, v1, v2, v3, v4, v5, -, v7⟩ := wA.1
            unfold Wf1
            rw [f6, fA 0 (by omega), fA 1 (by omega), fA 2 (by omega), fA 3 (by omega), fA 4 (by omega), fA 5 (by omega), fA 7 (by omega), fA 8 (by omega), fA 9 (by omega), fA 10 (by omega), fA 11 (by omega)]
            exact ⟨v0, v1, v2, v3, v4, v5, by omega, v7⟩
          have W4 : Wf4 A' := by
            obtain ⟨v1, v2, v3⟩ := wA.2.2.2.1
            obtain ⟨u0, u1, u2, u3, u4, u5, u6, u7, -⟩ := wA.1
            refine ⟨?_, ?_, ?_⟩
            · intro j hj; rw [fA 5 (by omega)] at hj; rw [fA _ (by omega), fA _ (by omega)]; exact v1 j hj
            · intro j hj
              by_cases e : j = A 6
              · subst e; rw [e1]; omega
              · rw [fA _ (by omega)]; exact v2 j (by omega)
            · intro j hj; rw [fA 7 (by omega)] at hj; rw [fA _ (by omega), fA _ (by omega), fA _ (by omega), fA _ (by omega)]; exact v3 j hj
          refine ⟨nI (A 6 + 1), A', B, ⟨⟨W1, (Wf2_c (fun k hk => fA k (by omega)) wA.2.1), (Wf3_c (fun k hk => fA k (by omega)) wA.1.1 wA.2.2.1), W4, (Wf5_c (fun k hk => fA k (by omega)) wA.1.2.2.2.2.1 wA.2.2.2.2)⟩, wB, by omega⟩, by omega, ?_, ?_⟩
          · intro I J T hC _
            obtain ⟨t1, t2, s1, s2, n1, n2⟩ := hC
            obtain ⟨I1, eI⟩ : ∃ X, X = uI (uI I 35 (A 6) (nI a)) 32 4 (nI (A 6 + 1)) := ⟨_, rfl⟩
            have fI : ∀ c k, (c ≠ 35 ∨ k ≠ A 6) ∧ (c ≠ 32 ∨ k ≠ 4) → I1 c k = I c k := fun c k hk => by rw [eI, uI_n (by omega), uI_n (by omega)]
            obtain ⟨o1, o2, o3, o4, o5, o6⟩ := n1
            obtain ⟨u0, u1, u2, u3, u4, u5, u6, u7, -⟩ := wA.1
            refine ⟨I1, fun c k hc => fI c k (by omega), ⟨⟨(fun h hh => by rw [fI _ _ (by omega), fA _ (by omega)]; exact tw_rooms t1 hh), (fun h hh => by rw [fI _ _ (by omega), fA _ (by omega)]; exact tw_income t1 hh), (fun h hh => by rw [fI _ _ (by omega), bes_c (fun k hk => fA k (by omega)) w0]; exact tw_beside t1 hh), (fun r hr => by rw [f1] at hr; rw [fI _ _ (by omega), fA _ (by omega)]; exact tw_truth t1 hr), (fun r hr => by rw [f1] at hr; rw [fI _ _ (by omega), fA _ (by omega)]; exact tw_purse t1 hr), (fun r hr => by rw [f1] at hr; rw [fI _ _ (by omega), fA _ (by omega)]; exact tw_told t1 hr), (fun r hr => by rw [f1] at hr; rw [fI _ _ (by omega), kpr_c (fun h hh => fA _ (by omega))]; exact tw_keepers t1 hr), (fun h hh => by rw [fI _ _ (by omega), fA _ (by omega)]; exact tw_pages t1 hh), (by rw [fI _ _ (by omega), fA _ (by omega)]; exact tw_written t1), (by rw [fI _ _ (by omega), fA _ (by omega)]; exact tw_roads t1), (by rw [fI _ _ (by omega), fA _ (by omega)]; exact tw_rumours t1), (by rw [fI _ _ (by omega), fA _ (by omega)]; exact tw_day t1), (by rw [fI _ _ (by omega), fA _ (by omega)]; exact tw_x t1), (by rw [fI _ _ (by omega), fA _ (by omega)]; exact tw_paid t1), (by rw [fI _ _ (by omega), fA _ (by omega)]; exact tw_texts t1), (by rw [fI _ _ (by omega), fA _ (by omega)]; exact tw_ruling t1)⟩, Twn_c t2 (fun c k hc => fI c k (by omega)) (fun _ _ _ _ => rfl) ⟨wB.1.1, wB.1.2.1⟩, Stw_c s1 (fun c k hc => fI c k (by omega)) (fA 4 (by omega)) (fun k h1 h2 => fA k (by omega)) wA, Stw_c s2 (fun c k hc => fI c k (by omega)) rfl (fun _ _ _ => rfl) wB, ⟨by rw [fI _ _ (by omega), fA _ (by omega)]; exact o1, by rw [eI, uI_s, f6], by rw [fI _ _ (by omega), fA _ (by omega)]; exact o3, fun j hj => by rw [fA 5 (by omega)] at hj; rw [fI _ _ (by omega), fI _ _ (by omega), fA _ (by omega), fA _ (by omega)]; exact o4 j hj, ?_, fun j hj => by rw [fA 7 (by omega)] at hj; rw [fI _ _ (by omega), fI _ _ (by omega), fI _ _ (by omega), fA _ (by omega), fA _ (by omega), fA _ (by omega)]; exact o6 j hj⟩, Nts_c n2 (fun c k hc => fI c k (by omega)) (fun _ _ => rfl) wB.1⟩, fun Q => ?_⟩
            · intro j hj
              by_cases e : j = A 6
              · subst e
                rw [e1, eI, uI_n (by omega), uI_s]
              · rw [fI _ _ (by omega), fA _ (by omega)]
                exact o5 j (by omega)
            · rw [eI]
              simp (disch := first | assumption | omega | decide) only [x151_0, x151_1, x151_2, x151_3, x151_4, x151_5, x151_6, x151_7, x151_8, x151_9, x151_10, x151_11, x151_12, x151_13, x151_14, x151_15, x151_16, x151_17, x151_18, x151_19, x151_20, x151_21, x151_22, x151_23, x151_24, x151_25, x151_26, x151_27, x151_28, x151_29, x151_30, x151_31, x151_32, x151_33, x151_34, x151_35, x151_36, x151_37, x151_38, x151_39, ↓reduceIte, Option.toList, List.nil_append, List.cons_append, nI_add, pk_mul, n_and, n_or, n_xor, nI_leI, nI_ltI, nI_eq, n_z, uI_s, uI_n, bI_n0, bI_n1, bT, bF, if_true, if_false, not_true, not_false_eq_true, pk_div, pk_rem, Nat.reduceEqDiff, Nat.reduceLeDiff, Nat.reduceLT, Nat.reduceAdd, Nat.reduceMul, Nat.reduceSub, Nat.not_lt_zero, Nat.zero_le, reduceCtorEq, ite_self, n_rem, and_self, and_true, true_and, and_false, false_and, hm, sp_isWithin, ↓in_t, o2, h8']
          · intro I J T hM _
            have m : ∀ k, k < 1799 → I 90 k = nI (A k) := hM.1
            refine ⟨uI (uI I 90 (88 + A 6) (nI a)) 90 6 (nI (A 6 + 1)), J, ⟨fun c k hc => by simp (disch := omega) only [uI_n], fun k hk => by simp (disch := omega) only [uI_n]⟩, ⟨by rw [eA]; exact AtM_u (AtM_u hM.1), AtM_c hM.2.1 (fun k => by simp (disch := omega) only [uI_n]), by simp (disch := omega) only [uI_n]; exact hM.2.2⟩, fun Q => ?_⟩
            simp (disch := first | assumption | omega | decide) only [x297_0, x297_1, x297_2, x297_3, x297_4, x297_5, x297_6, x297_7, x297_8, x297_9, x297_10, x297_11, x297_12, x297_13, x297_14, x297_15, x297_16, x297_17, x297_18, x297_19, x297_20, x297_21, x297_22, x297_23, x297_24, x297_25, x297_26, x297_27, x297_28, x297_29, x297_30, x297_31, x297_32, x297_33, x297_34, x297_35, x297_36, x297_37, x297_38, x297_39, x297_40, x297_41, x297_42, x297_43, x297_44, x297_45, ↓reduceIte, Option.toList, List.nil_append, List.cons_append, nI_add, pk_mul, n_and, n_or, n_xor, nI_leI, nI_ltI, nI_eq, n_z, uI_s, uI_n, bI_n0, bI_n1, bT, bF, if_true, if_false, not_true, not_false_eq_true, pk_div, pk_rem, Nat.reduceEqDiff, Nat.reduceLeDiff, Nat.reduceLT, Nat.reduceAdd, Nat.reduceMul, Nat.reduceSub, Nat.not_lt_zero, Nat.zero_le, reduceCtorEq, ite_self, n_rem, and_self, and_true, true_and, and_false, false_and, hm, sp_isIn, ↓in_t, m, h8]
    · have e1 : bI (nI 1 ≤ x ∧ x ≤ nI 4) = nI 0 := by
        rw [bI_f]
        rintro ⟨h1, h2⟩
        have := nr_f hx (by decide)
        rw [← this]
        exact ⟨Int32.le_trans (by decide) h1, h2⟩
      refine jtR w' (-2) ?_ ?_ <;> intro I J T Q hI
      · simp (disch := first | assumption | omega | decide) only [x151_0, x151_1, x151_2, x151_3, x151_4, x151_5, x151_6, x151_7, x151_8, x151_9, x151_10, x151_11, x151_12, x151_13, x151_14, x151_15, x151_16, x151_17, x151_18, x151_19, x151_20, x151_21, x151_22, x151_23, x151_24, x151_25, x151_26, x151_27, x151_28, x151_29, x151_30, x151_31, x151_32, x151_33, x151_34, x151_35, x151_36, x151_37, x151_38, x151_39, ↓reduceIte, Option.toList, List.nil_append, List.cons_append, nI_add, pk_mul, n_and, n_or, n_xor, nI_leI, nI_ltI, nI_eq, n_z, uI_s, uI_n, bI_n0, bI_n1, bT, bF, if_true, if_false, not_true, not_false_eq_true, pk_div, pk_rem, Nat.reduceEqDiff, Nat.reduceLeDiff, Nat.reduceLT, Nat.reduceAdd, Nat.reduceMul, Nat.reduceSub, Nat.not_lt_zero, Nat.zero_le, reduceCtorEq, ite_self, n_rem, and_self, and_true, true_and, and_false, false_and, hm, sp_isWithin, e1]
      · simp (disch := first | assumption | omega | decide) only [x297_0, x297_1, x297_2, x297_3, x297_4, x297_5, x297_6, x297_7, x297_8, x297_9, x297_10, x297_11, x297_12, x297_13, x297_14, x297_15, x297_16, x297_17, x297_18, x297_19, x297_20, x297_21, x297_22, x297_23, x297_24, x297_25, x297_26, x297_27, x297_28, x297_29, x297_30, x297_31, x297_32, x297_33, x297_34, x297_35, x297_36, x297_37, x297_38, x297_39, x297_40, x297_41, x297_42, x297_43, x297_44, x297_45, ↓reduceIte, Option.toList, List.nil_append, List.cons_append, nI_add, pk_mul, n_and, n_or, n_xor, nI_leI, nI_ltI, nI_eq, n_z, uI_s, uI_n, bI_n0, bI_n1, bT, bF, if_true, if_false, not_true, not_false_eq_true, pk_div, pk_rem, Nat.reduceEqDiff, Nat.reduceLeDiff, Nat.reduceLT, Nat.reduceAdd, Nat.reduceMul, Nat.reduceSub, Nat.not_lt_zero, Nat.zero_le, reduceCtorEq, ite_self, n_rem, and_self, and_true, true_and, and_false, false_and, hm, sp_isIn, e1]
theorem jt_said {x y z : Int32} : Jt TX sc (d + 3) 153 301 [some (.ref 0), some (.int x), some (.int y), some (.int z)] [some (.ref 89), some (.int x), some (.int y), some (.int z), none] := by
  intro A B M w _
  have w' := w
  obtain ⟨wA, wB, wt⟩ := w
  have w0 : A 0 ≤ 12 := wA.1.1
  have w1 : A 1 ≤ 4 := wA.1.2.1
  have w7 : A 7 ≤ 8 := wA.1.2.2.2.2.2.2.2.1
  by_cases hm : x = -1
  · obtain ⟨A', eA⟩ : ∃ X, X = upA A 7 0 := ⟨_, rfl⟩
    have fA : ∀ k, k ≠ 7 → A' k = A k := fun k hk => by rw [eA]; exact upA_n hk
    have f7 : A' 7 = 0 := by rw [eA, upA_s]
    have f1 : A' 1 = A 1 := fA 1 (by omega)
    have f2 : A' 2 = A 2 := fA 2 (by omega)
    have W1 : Wf1 A' := by
      obtain ⟨v0, v1, v2, v3, v4, v5, v6, -, v8⟩ := wA.1
      unfold Wf1
      rw [f7, fA 0 (by omega), fA 1 (by omega), fA 2 (by omega), fA 3 (by omega), fA 4 (by omega), fA 5 (by omega), fA 6 (by omega), fA 8 (by omega), fA 9 (by omega), fA 10 (by omega), fA 11 (by omega)]
      exact ⟨v0, v1, v2, v3, v4, v5, v6, by omega, v8⟩
    have W4 : Wf4 A' := by
      obtain ⟨v1, v2, v3⟩ := wA.2.2.2.1
      obtain ⟨u0, u1, u2, u3, u4, u5, u6, u7, -⟩ := wA.1
      refine ⟨?_, ?_, ?_⟩
      · intro j hj; rw [fA 5 (by omega)] at hj; rw [fA _ (by omega), fA _ (by omega)]; exact v1 j hj
      · intro j hj; rw [fA 6 (by omega)] at hj; rw [fA _ (by omega)]; exact v2 j hj
      · intro j hj; rw [f7] at hj; omega
    refine ⟨nI 0, A', B, ⟨⟨W1, (Wf2_c (fun k hk => fA k (by omega)) wA.2.1), (Wf3_c (fun k hk => fA k (by omega)) wA.1.1 wA.2.2.1), W4, (Wf5_c (fun k hk => fA k (by omega)) wA.1.2.2.2.2.1 wA.2.2.2.2)⟩, wB, by omega⟩, by omega, ?_, ?_⟩
    · intro I J T hC _
      obtain ⟨t1, t2, s1, s2, n1, n2⟩ := hC
      obtain ⟨I1, eI⟩ : ∃ X, X = uI I 32 8 (nI 0) := ⟨_, rfl⟩
      have fI : ∀ c k, c ≠ 32 ∨ k ≠ 8 → I1 c k = I c k := fun c k hk => by rw [eI]; exact uI_n hk
      obtain ⟨o1, o2, o3, o4, o5, o6⟩ := n1
      obtain ⟨u0, u1, u2, u3, u4, u5, u6, u7, -⟩ := wA.1
      refine ⟨I1, fun c k hc => fI c k (by omega), ⟨⟨(fun h hh => by rw [fI _ _ (by omega), fA _ (by omega)]; exact tw_rooms t1 hh), (fun h hh => by rw [fI _ _ (by omega), fA _ (by omega)]; exact tw_income t1 hh), (fun h hh => by rw [fI _ _ (by omega), bes_c (fun k hk => fA k (by omega)) w0]; exact tw_beside t1 hh), (fun r hr => by rw [f1] at hr; rw [fI _ _ (by omega), fA _ (by omega)]; exact tw_truth t1 hr), (fun r hr => by rw [f1] at hr; rw [fI _ _ (by omega), fA _ (by omega)]; exact tw_purse t1 hr), (fun r hr => by rw [f1] at hr; rw [fI _ _ (by omega), fA _ (by omega)]; exact tw_told t1 hr), (fun r hr => by rw [f1] at hr; rw [fI _ _ (by omega), kpr_c (fun h hh => fA _ (by omega))]; exact tw_keepers t1 hr), (fun h hh => by rw [fI _ _ (by omega), fA _ (by omega)]; exact tw_pages t1 hh), (by rw [fI _ _ (by omega), fA _ (by omega)]; exact tw_written t1), (by rw [fI _ _ (by omega), fA _ (by omega)]; exact tw_roads t1), (by rw [fI _ _ (by omega), fA _ (by omega)]; exact tw_rumours t1), (by rw [fI _ _ (by omega), fA _ (by omega)]; exact tw_day t1), (by rw [fI _ _ (by omega), fA _ (by omega)]; exact tw_x t1), (by rw [fI _ _ (by omega), fA _ (by omega)]; exact tw_paid t1), (by rw [fI _ _ (by omega), fA _ (by omega)]; exact tw_texts t1), (by rw [fI _ _ (by omega), fA _ (by omega)]; exact tw_ruling t1)⟩, Twn_c t2 (fun c k hc => fI c k (by omega)) (fun _ _ _ _ => rfl) ⟨wB.1.1, wB.1.2.1⟩, Stw_c s1 (fun c k hc => fI c k (by omega)) (fA 4 (by omega)) (fun k h1 h2 => fA k (by omega)) wA, Stw_c s2 (fun c k hc => fI c k (by omega)) rfl (fun _ _ _ => rfl) wB, ⟨by rw [fI _ _ (by omega), fA _ (by omega)]; exact o1, by rw [fI _ _ (by omega), fA _ (by omega)]; exact o2, by rw [eI, uI_s, f7], fun j hj => by rw [fA 5 (by omega)] at hj; rw [fI _ _ (by omega), fI _ _ (by omega), fA _ (by omega), fA _ (by omega)]; exact o4 j hj, fun j hj => by rw [fA 6 (by omega)] at hj; rw [fI _ _ (by omega), fA _ (by omega)]; exact o5 j hj, fun j hj => by omega⟩, Nts_c n2 (fun c k hc => fI c k (by omega)) (fun _ _ => rfl) wB.1⟩, fun Q => ?_⟩
      rw [eI]
      simp (disch := first | assumption | omega | decide) only [x153_0, x153_1, x153_2, x153_3, x153_4, x153_5, x153_6, x153_7, x153_8, x153_9, x153_10, x153_11, x153_12, x153_13, x153_14, x153_15, x153_16, x153_17, x153_18, x153_19, x153_20, x153_21, x153_22, x153_23, x153_24, x153_25, x153_26, x153_27, x153_28, x153_29, x153_30, x153_31, x153_32, x153_33, x153_34, x153_35, x153_36, x153_37, x153_38, x153_39, x153_40, x153_41, x153_42, x153_43, x153_44, x153_45, x153_46, x153_47, x153_48, x153_49, x153_50, x153_51, x153_52, x153_53, x153_54, x153_55, x153_56, x153_57, x153_58, x153_59, x153_60, x153_61, x153_62, x153_63, ↓reduceIte, Option.toList, List.nil_append, List.cons_append, nI_add, pk_mul, n_and, n_or, n_xor, nI_leI, nI_ltI, nI_eq, n_z, uI_s, uI_n, bI_n0, bI_n1, bT, bF, if_true, if_false, not_true, not_false_eq_true, pk_div, pk_rem, Nat.reduceEqDiff, Nat.reduceLeDiff, Nat.reduceLT, Nat.reduceAdd, Nat.reduceMul, Nat.reduceSub, Nat.not_lt_zero, Nat.zero_le, reduceCtorEq, ite_self, n_rem, and_self, and_true, true_and, and_false, false_and, hm]
    · intro I J T hM _
      refine ⟨uI I 90 7 (nI 0), J, ⟨fun c k hc => by simp (disch := omega) only [uI_n], fun k hk => by simp (disch := omega) only [uI_n]⟩, ⟨by rw [eA]; exact AtM_u hM.1, AtM_c hM.2.1 (fun k => uI_n (by omega)), (uI_n (by omega)).trans hM.2.2⟩, fun Q => ?_⟩
      simp (disch := first | assumption | omega | decide) only [x301_0, x301_1, x301_2, x301_3, x301_4, x301_5, x301_6, x301_7, x301_8, x301_9, x301_10, x301_11, x301_12, x301_13, x301_14, x301_15, x301_16, x301_17, x301_18, x301_19, x301_20, x301_21, x301_22, x301_23, x301_24, x301_25, x301_26, x301_27, x301_28, x301_29, x301_30, x301_31, x301_32, x301_33, x301_34, x301_35, x301_36, x301_37, x301_38, x301_39, x301_40, x301_41, x301_42, x301_43, x301_44, x301_45, x301_46, x301_47, x301_48, x301_49, x301_50, x301_51, x301_52, x301_53, x301_54, x301_55, x301_56, x301_57, x301_58, x301_59, x301_60, x301_61, x301_62, x301_63, x301_64, x301_65, x301_66, x301_67, x301_68, x301_69, x301_70, ↓reduceIte, Option.toList, List.nil_append, List.cons_append, nI_add, pk_mul, n_and, n_or, n_xor, nI_leI, nI_ltI, nI_eq, n_z, uI_s, uI_n, bI_n0, bI_n1, bT, bF, if_true, if_false, not_true, not_false_eq_true, pk_div, pk_rem, Nat.reduceEqDiff, Nat.reduceLeDiff, Nat.reduceLT, Nat.reduceAdd, Nat.reduceMul, Nat.reduceSub, Nat.not_lt_zero, Nat.zero_le, reduceCtorEq, ite_self, n_rem, and_self, and_true, true_and, and_false, false_and, hm]
  · by_cases hx : inR x 8
    · obtain ⟨a, ha, rfl⟩ := hx
      by_cases hy : inR y (A 1)
      · obtain ⟨b, hb, rfl⟩ := hy
        by_cases hz : inR z 100
        · obtain ⟨c, hc, rfl⟩ := hz
          by_cases h8 : A 7 = 8
          · refine jtR w' (-2) ?_ ?_ <;> intro I J T Q hI
            · simp (disch := first | assumption | omega | decide) only [x153_0, x153_1, x153_2, x153_3, x153_4, x153_5, x153_6, x153_7, x153_8, x153_9, x153_10, x153_11, x153_12, x153_13, x153_14, x153_15, x153_16, x153_17, x153_18, x153_19, x153_20, x153_21, x153_22, x153_23, x153_24, x153_25, x153_26, x153_27, x153_28, x153_29, x153_30, x153_31, x153_32, x153_33, x153_34, x153_35, x153_36, x153_37, x153_38, x153_39, x153_40, x153_41, x153_42, x153_43, x153_44, x153_45, x153_46, x153_47, x153_48, x153_49, x153_50, x153_51, x153_52, x153_53, x153_54, x153_55, x153_56, x153_57, x153_58, x153_59, x153_60, x153_61, x153_62, x153_63, ↓reduceIte, Option.toList, List.nil_append, List.cons_append, nI_add, pk_mul, n_and, n_or, n_xor, nI_leI, nI_ltI, nI_eq, n_z, uI_s, uI_n, bI_n0, bI_n1, bT, bF, if_true, if_false, not_true, not_false_eq_true, pk_div, pk_rem, Nat.reduceEqDiff, Nat.reduceLeDiff, Nat.reduceLT, Nat.reduceAdd, Nat.reduceMul, Nat.reduceSub, Nat.not_lt_zero, Nat.zero_le, reduceCtorEq, ite_self, n_rem, and_self, and_true, true_and, and_false, false_and, hm, sp_houC_t, sp_rumC_ta hb w1 (tw_rumours hI.1), sp_isWithin, ↓in_t, hI.2.2.2.2.1.2.2.1, h8]
            · simp (disch := first | assumption | omega | decide) only [x301_0, x301_1, x301_2, x301_3, x301_4, x301_5, x301_6, x301_7, x301_8, x301_9, x301_10, x301_11, x301_12, x301_13, x301_14, x301_15, x301_16, x301_17, x301_18, x301_19, x301_20, x301_21, x301_22, x301_23, x301_24, x301_25, x301_26, x301_27, x301_28, x301_29, x301_30, x301_31, x301_32, x301_33, x301_34, x301_35, x301_36, x301_37, x301_38, x301_39, x301_40, x301_41, x301_42, x301_43, x301_44, x301_45, x301_46, x301_47, x301_48, x301_49, x301_50, x301_51, x301_52, x301_53, x301_54, x301_55, x301_56, x301_57, x301_58, x301_59, x301_60, x301_61, x301_62, x301_63, x301_64, x301_65, x301_66, x301_67, x301_68, x301_69, x301_70, ↓reduceIte, Option.toList, List.nil_append, List.cons_append, nI_add, pk_mul, n_and, n_or, n_xor, nI_leI, nI_ltI, nI_eq, n_z, uI_s, uI_n, bI_n0, bI_n1, bT, bF, if_true, if_false, not_true, not_false_eq_true, pk_div, pk_rem, Nat.reduceEqDiff, Nat.reduceLeDiff, Nat.reduceLT, Nat.reduceAdd, Nat.reduceMul, Nat.reduceSub, Nat.not_lt_zero, Nat.zero_le, reduceCtorEq, ite_self, n_rem, and_self, and_true, true_and, and_false, false_and, hm, sp_houM_t, sp_rumM_t hb w1 (hI.1 1 (by decide)), sp_isIn, ↓in_t, hI.1 7 (by decide), h8]
          · have h8' : A 7 < 8 := by omega
            obtain ⟨A', eA⟩ : ∃ X, X = upA (upA (upA (upA A (95 + 3 * A 7) a) (95 + 3 * A 7 + 1) b) (95 + 3 * A 7 + 2) c) 7 (A 7 + 1) := ⟨_, rfl⟩
            have fA : ∀ k, (k ≠ 95 + 3 * A 7 ∧ k ≠ 95 + 3 * A 7 + 1 ∧ k ≠ 95 + 3 * A 7 + 2 ∧ k ≠ 7) → A' k = A k := fun k ⟨h1, h2, h3, h4⟩ => by rw [eA, upA_n h4, upA_n h3, upA_n h2, upA_n h1]
            have f7 : A' 7 = A 7 + 1 := by rw [eA, upA_s]
            have e1 : A' (95 + 3 * A 7) = a := by rw [eA, upA_n (by omega), upA_n (by omega), upA_n (by omega), upA_s]
            have e2 : A' (95 + 3 * A 7 + 1) = b := by rw [eA, upA_n (by omega), upA_n (by omega), upA_s]
            have e3 : A' (95 + 3 * A 7 + 2) = c := by rw [eA, upA_n (by omega), upA_s]
            have f1 : A' 1 = A 1 := fA 1 (by omega)
            have f2 : A' 2 = A 2 := fA 2 (by omega)
            have W1 : Wf1 A' := by
              obtain ⟨v0, v1, v2, v3, v4, v5, v6, -, v8⟩ := wA.1
              unfold Wf1
              rw [f7, fA 0 (by omega), fA 1 (by omega), fA 2 (by omega), fA 3 (by omega), fA 4 (by omega), fA 5 (by omega), fA 6 (by omega), fA 8 (by omega), fA 9 (by omega), fA 10 (by omega), fA 11 (by omega)]
              exact ⟨v0, v1, v2, v3, v4, v5, v6, by omega, v8⟩
            have W4 : Wf4 A' := by
              obtain ⟨v1, v2, v3⟩ := wA.2.2.2.1
              obtain ⟨u0, u1, u2, u3, u4, u5, u6, u7, -⟩ := wA.1
              refine ⟨?_, ?_, ?_⟩
              · intro j hj; rw [fA 5 (by omega)] at hj; rw [fA _ (by omega), fA _ (by omega)]; exact v1 j hj
              · intro j hj; rw [fA 6 (by omega)] at hj; rw [fA _ (by omega)]; exact v2 j hj
              · intro j hj
                by_cases e : j = A 7
                · subst e; rw [e1, e2, e3]; omega
                · rw [fA _ (by omega), fA _ (by omega), fA _ (by omega), fA _ (by omega)]; exact v3 j (by omega)
            refine ⟨nI (A 7 + 1), A', B, ⟨⟨W1, (Wf2_c (fun k hk => fA k (by omega)) wA.2.1), (Wf3_c (fun k hk => fA k (by omega)) wA.1.1 wA.2.2.1), W4, (Wf5_c (fun k hk => fA k (by omega)) wA.1.2.2.2.2.1 wA.2.2.2.2)⟩, wB, by omega⟩, by omega, ?_, ?_⟩
            · intro I J T hC _
              obtain ⟨t1, t2, s1, s2, n1, n2⟩ := hC
              obtain ⟨I1, eI⟩ : ∃ X, X = uI (uI (uI (uI I 36 (A 7) (nI a)) 37 (A 7) (nI b)) 38 (A 7) (nI c)) 32 8 (nI (A 7 + 1)) := ⟨_, rfl⟩
              have fI : ∀ c k, ((c ≠ 36 ∧ c ≠ 37 ∧ c ≠ 38) ∨ k ≠ A 7) ∧ (c ≠ 32 ∨ k ≠ 8) → I1 c k = I c k := fun c k hk => by rw [eI, uI_n (by omega), uI_n (by omega), uI_n (by omega), uI_n (by omega)]
              obtain ⟨o1, o2, o3, o4, o5, o6⟩ := n1
              obtain ⟨u0, u1, u2, u3, u4, u5, u6, u7, -⟩ := wA.1
              refine ⟨I1, fun c k hc => fI c k (by omega), ⟨⟨(fun h hh => by rw [fI _ _ (by omega), fA _ (by omega)]; exact tw_rooms t1 hh), (fun h hh => by rw [fI _ _ (by omega), fA _ (by omega)]; exact tw_income t1 hh), (fun h hh => by rw [fI _ _ (by omega), bes_c (fun k hk => fA k (by omega)) w0]; exact tw_beside t1 hh), (fun r hr => by rw [f1] at hr; rw [fI _ _ (by omega), fA _ (by omega)]; exact tw_truth t1 hr), (fun r hr => by rw [f1] at hr; rw [fI _ _ (by omega), fA _ (by omega)]; exact tw_purse t1 hr), (fun r hr => by rw [f1] at hr; rw [fI _ _ (by omega), fA _ (by omega)]; exact tw_told t1 hr), (fun r hr => by rw [f1] at hr; rw [fI _ _ (by omega), kpr_c (fun h hh => fA _ (by omega))]; exact tw_keepers t1 hr), (fun h hh => by rw [fI _ _ (by omega), fA _ (by omega)]; exact tw_pages t1 hh), (by rw [fI _ _ (by omega), fA _ (by omega)]; exact tw_written t1), (by rw [fI _ _ (by omega), fA _ (by omega)]; exact tw_roads t1), (by rw [fI _ _ (by omega), fA _ (by omega)]; exact tw_rumours t1), (by rw [fI _ _ (by omega), fA _ (by omega)]; exact tw_day t1), (by rw [fI _ _ (by omega), fA _ (by omega)]; exact tw_x t1), (by rw [fI _ _ (by omega), fA _ (by omega)]; exact tw_paid t1), (by rw [fI _ _ (by omega), fA _ (by omega)]; exact tw_texts t1), (by rw [fI _ _ (by omega), fA _ (by omega)]; exact tw_ruling t1)⟩, Twn_c t2 (fun c k hc => fI c k (by omega)) (fun _ _ _ _ => rfl) ⟨wB.1.1, wB.1.2.1⟩, Stw_c s1 (fun c k hc => fI c k (by omega)) (fA 4 (by omega)) (fun k h1 h2 => fA k (by omega)) wA, Stw_c s2 (fun c k hc => fI c k (by omega)) rfl (fun _ _ _ => rfl) wB, ⟨by rw [fI _ _ (by omega), fA _ (by omega)]; exact o1, by rw [fI _ _ (by omega), fA _ (by omega)]; exact o2, by rw [eI, uI_s, f7], fun j hj => by rw [fA 5 (by omega)] at hj; rw [fI _ _ (by omega), fI _ _ (by omega), fA _ (by omega), fA _ (by omega)]; exact o4 j hj, fun j hj => by rw [fA 6 (by omega)] at hj; rw [fI _ _ (by omega), fA _ (by omega)]; exact o5 j hj, ?_⟩, Nts_c n2 (fun c k hc => fI c k (by omega)) (fun _ _ => rfl) wB.1⟩, fun Q => ?_⟩
              · intro j hj
                by_cases e : j = A 7
                · subst e
                  rw [e1, e2, e3, eI]
                  simp (disch := omega) only [uI_n, uI_s, and_self]
                · rw [fI _ _ (by omega), fI _ _ (by omega), fI _ _ (by omega), fA _ (by omega), fA _ (by omega), fA _ (by omega)]
                  exact o6 j (by omega)
              · rw [eI]
                simp (disch := first | assumption | omega | decide) only [x153_0, x153_1, x153_2, x153_3, x153_4, x153_5, x153_6, x153_7, x153_8, x153_9, x153_10, x153_11, x153_12, x153_13, x153_14, x153_15, x153_16, x153_17, x153_18, x153_19, x153_20, x153_21, x153_22, x153_23, x153_24, x153_25, x153_26, x153_27, x153_28, x153_29, x153_30, x153_31, x153_32, x153_33, x153_34, x153_35, x153_36, x153_37, x153_38, x153_39, x153_40, x153_41, x153_42, x153_43, x153_44, x153_45, x153_46, x153_47, x153_48, x153_49, x153_50, x153_51, x153_52, x153_53, x153_54, x153_55, x153_56, x153_57, x153_58, x153_59, x153_60, x153_61, x153_62, x153_63, ↓reduceIte, Option.toList, List.nil_append, List.cons_append, nI_add, pk_mul, n_and, n_or, n_xor, nI_leI, nI_ltI, nI_eq, n_z, uI_s, uI_n, bI_n0, bI_n1, bT, bF, if_true, if_false, not_true, not_false_eq_true, pk_div, pk_rem, Nat.reduceEqDiff, Nat.reduceLeDiff, Nat.reduceLT, Nat.reduceAdd, Nat.reduceMul, Nat.reduceSub, Nat.not_lt_zero, Nat.zero_le, reduceCtorEq, ite_self, n_rem, and_self, and_true, true_and, and_false, false_and, hm, sp_houC_t, sp_rumC_ta hb w1 (tw_rumours t1), sp_isWithin, ↓in_t, o3, h8']
            · intro I J T hM _
              have m : ∀ k, k < 1799 → I 90 k = nI (A k) := hM.1
              refine ⟨uI (uI (uI (uI I 90 (95 + 3 * A 7) (nI a)) 90 (95 + 3 * A 7 + 1) (nI b)) 90 (95 + 3 * A 7 + 2) (nI c)) 90 7 (nI (A 7 + 1)), J, ⟨fun c k hc => by simp (disch := omega) only [uI_n], fun k hk => by simp (disch := omega) only [uI_n]⟩, ⟨by rw [eA]; exact AtM_u (AtM_u (AtM_u (AtM_u hM.1))), AtM_c hM.2.1 (fun k => by simp (disch := omega) only [uI_n]), by simp (disch := omega) only [uI_n]; exact hM.2.2⟩, fun Q => ?_⟩
              simp (disch := first | assumption | omega | decide) only [x301_0, x301_1, x301_2, x301_3, x301_4, x301_5, x301_6, x301_7, x301_8, x301_9, x301_10, x301_11, x301_12, x301_13, x301_14, x301_15, x301_16, x301_17, x301_18, x301_19, x301_20, x301_21, x301_22, x301_23, x301_24, x301_25, x301_26, x301_27, x301_28, x301_29, x301_30, x301_31, x301_32, x301_33, x301_34, x301_35, x301_36, x301_37, x301_38, x301_39, x301_40, x301_41, x301_42, x301_43, x301_44, x301_45, x301_46, x301_47, x301_48, x301_49, x301_50, x301_51, x301_52, x301_53, x301_54, x301_55, x301_56, x301_57, x301_58, x301_59, x301_60, x301_61, x301_62, x301_63, x301_64, x301_65, x301_66, x301_67, x301_68, x301_69, x301_70, ↓reduceIte, Option.toList, List.nil_append, List.cons_append, nI_add, pk_mul, n_and, n_or, n_xor, nI_leI, nI_ltI, nI_eq, n_z, uI_s, uI_n, bI_n0, bI_n1, bT, bF, if_true, if_false, not_true, not_false_eq_true, pk_div, pk_rem, Nat.reduceEqDiff, Nat.reduceLeDiff, Nat.reduceLT, Nat.reduceAdd, Nat.reduceMul, Nat.reduceSub, Nat.not_lt_zero, Nat.zero_le, reduceCtorEq, ite_self, n_rem, and_self, and_true, true_and, and_false, false_and, hm, sp_houM_t, sp_rumM_t hb w1 (hM.1 1 (by decide)), sp_isIn, ↓in_t, m, h8]
        · refine jtR w' (-2) ?_ ?_ <;> intro I J T Q hI
          · simp (disch := first | assumption | omega | decide) only [x153_0, x153_1, x153_2, x153_3, x153_4, x153_5, x153_6, x153_7, x153_8, x153_9, x153_10, x153_11, x153_12, x153_13, x153_14, x153_15, x153_16, x153_17, x153_18, x153_19, x153_20, x153_21, x153_22, x153_23, x153_24, x153_25, x153_26, x153_27, x153_28, x153_29, x153_30, x153_31, x153_32, x153_33, x153_34, x153_35, x153_36, x153_37, x153_38, x153_39, x153_40, x153_41, x153_42, x153_43, x153_44, x153_45, x153_46, x153_47, x153_48, x153_49, x153_50, x153_51, x153_52, x153_53, x153_54, x153_55, x153_56, x153_57, x153_58, x153_59, x153_60, x153_61, x153_62, x153_63, ↓reduceIte, Option.toList, List.nil_append, List.cons_append, nI_add, pk_mul, n_and, n_or, n_xor, nI_leI, nI_ltI, nI_eq, n_z, uI_s, uI_n, bI_n0, bI_n1, bT, bF, if_true, if_false, not_true, not_false_eq_true, pk_div, pk_rem, Nat.reduceEqDiff, Nat.reduceLeDiff, Nat.reduceLT, Nat.reduceAdd, Nat.reduceMul, Nat.reduceSub, Nat.not_lt_zero, Nat.zero_le, reduceCtorEq, ite_self, n_rem, and_self, and_true, true_and, and_false, false_and, hm, sp_houC_t, sp_rumC_ta hb w1 (tw_rumours hI.1), sp_isWithin, ↓in_f hz]
          · simp (disch := first | assumption | omega | decide) only [x301_0, x301_1, x301_2, x301_3, x301_4, x301_5, x301_6, x301_7, x301_8, x301_9, x301_10, x301_11, x301_12, x301_13, x301_14, x301_15, x301_16, x301_17, x301_18, x301_19, x301_20, x301_21, x301_22, x301_23, x301_24, x301_25, x301_26, x301_27, x301_28, x301_29, x301_30, x301_31, x301_32, x301_33, x301_34, x301_35, x301_36, x301_37, x301_38, x301_39, x301_40, x301_41, x301_42, x301_43, x301_44, x301_45, x301_46, x301_47, x301_48, x301_49, x301_50, x301_51, x301_52, x301_53, x301_54, x301_55, x301_56, x301_57, x301_58, x301_59, x301_60, x301_61, x301_62, x301_63, x301_64, x301_65, x301_66, x301_67, x301_68, x301_69, x301_70, ↓reduceIte, Option.toList, List.nil_append, List.cons_append, nI_add, pk_mul, n_and, n_or, n_xor, nI_leI, nI_ltI, nI_eq, n_z, uI_s, uI_n, bI_n0, bI_n1, bT, bF, if_true, if_false, not_true, not_false_eq_true, pk_div, pk_rem, Nat.reduceEqDiff, Nat.reduceLeDiff, Nat.reduceLT, Nat.reduceAdd, Nat.reduceMul, Nat.reduceSub, Nat.not_lt_zero, Nat.zero_le, reduceCtorEq, ite_self, n_rem, and_self, and_true, true_and, and_false, false_and, hm, sp_houM_t, sp_rumM_t hb w1 (hI.1 1 (by decide)), sp_isIn, ↓in_f hz]
      · refine jtR w' (-2) ?_ ?_ <;> intro I J T Q hI
        · simp (disch := first | assumption | omega | decide) only [x153_0, x153_1, x153_2, x153_3, x153_4, x153_5, x153_6, x153_7, x153_8, x153_9, x153_10, x153_11, x153_12, x153_13, x153_14, x153_15, x153_16, x153_17, x153_18, x153_19, x153_20, x153_21, x153_22, x153_23, x153_24, x153_25, x153_26, x153_27, x153_28, x153_29, x153_30, x153_31, x153_32, x153_33, x153_34, x153_35, x153_36, x153_37, x153_38, x153_39, x153_40, x153_41, x153_42, x153_43, x153_44, x153_45, x153_46, x153_47, x153_48, x153_49, x153_50, x153_51, x153_52, x153_53, x153_54, x153_55, x153_56, x153_57, x153_58, x153_59, x153_60, x153_61, x153_62, x153_63, ↓reduceIte, Option.toList, List.nil_append, List.cons_append, nI_add, pk_mul, n_and, n_or, n_xor, nI_leI, nI_ltI, nI_eq, n_z, uI_s, uI_n, bI_n0, bI_n1, bT, bF, if_true, if_false, not_true, not_false_eq_true, pk_div, pk_rem, Nat.reduceEqDiff, Nat.reduceLeDiff, Nat.reduceLT, Nat.reduceAdd, Nat.reduceMul, Nat.reduceSub, Nat.not_lt_zero, Nat.zero_le, reduceCtorEq, ite_self, n_rem, and_self, and_true, true_and, and_false, false_and, hm, sp_houC_t, sp_rumC_fa hy w1 (tw_rumours hI.1)]
        · simp (disch := first | assumption | omega | decide) only [x301_0, x301_1, x301_2, x301_3, x301_4, x301_5, x301_6, x301_7, x301_8, x301_9, x301_10, x301_11, x301_12, x301_13, x301_14, x301_15, x301_16, x301_17, x301_18, x301_19, x301_20, x301_21, x301_22, x301_23, x301_24, x301_25, x301_26, x301_27, x301_28, x301_29, x301_30, x301_31, x301_32, x301_33, x301_34, x301_35, x301_36, x301_37, x301_38, x301_39, x301_40, x301_41, x301_42, x301_43, x301_44, x301_45, x301_46, x301_47, x301_48, x301_49, x301_50, x301_51, x301_52, x301_53, x301_54, x301_55, x301_56, x301_57, x301_58, x301_59, x301_60, x301_61, x301_62, x301_63, x301_64, x301_65, x301_66, x301_67, x301_68, x301_69, x301_70, ↓reduceIte, Option.toList, List.nil_append, List.cons_append, nI_add, pk_mul, n_and, n_or, n_xor, nI_leI, nI_ltI, nI_eq, n_z, uI_s, uI_n, bI_n0, bI_n1, bT, bF, if_true, if_false, not_true, not_false_eq_true, pk_div, pk_rem, Nat.reduceEqDiff, Nat.reduceLeDiff, Nat.reduceLT, Nat.reduceAdd, Nat.reduceMul, Nat.reduceSub, Nat.not_lt_zero, Nat.zero_le, reduceCtorEq, ite_self, n_rem, and_self, and_true, true_and, and_false, false_and, hm, sp_houM_t, sp_rumM_f hy w1 (hI.1 1 (by decide))]
    · refine jtR w' (-2) ?_ ?_ <;> intro I J T Q hI
      · simp (disch := first | assumption | omega | decide) only [x153_0, x153_1, x153_2, x153_3, x153_4, x153_5, x153_6, x153_7, x153_8, x153_9, x153_10, x153_11, x153_12, x153_13, x153_14, x153_15, x153_16, x153_17, x153_18, x153_19, x153_20, x153_21, x153_22, x153_23, x153_24, x153_25, x153_26, x153_27, x153_28, x153_29, x153_30, x153_31, x153_32, x153_33, x153_34, x153_35, x153_36, x153_37, x153_38, x153_39, x153_40, x153_41, x153_42, x153_43, x153_44, x153_45, x153_46, x153_47, x153_48, x153_49, x153_50, x153_51, x153_52, x153_53, x153_54, x153_55, x153_56, x153_57, x153_58, x153_59, x153_60, x153_61, x153_62, x153_63, ↓reduceIte, Option.toList, List.nil_append, List.cons_append, nI_add, pk_mul, n_and, n_or, n_xor, nI_leI, nI_ltI, nI_eq, n_z, uI_s, uI_n, bI_n0, bI_n1, bT, bF, if_true, if_false, not_true, not_false_eq_true, pk_div, pk_rem, Nat.reduceEqDiff, Nat.reduceLeDiff, Nat.reduceLT, Nat.reduceAdd, Nat.reduceMul, Nat.reduceSub, Nat.not_lt_zero, Nat.zero_le, reduceCtorEq, ite_self, n_rem, and_self, and_true, true_and, and_false, false_and, hm, sp_houC_f hx]
      · simp (disch := first | assumption | omega | decide) only [x301_0, x301_1, x301_2, x301_3, x301_4, x301_5, x301_6, x301_7, x301_8, x301_9, x301_10, x301_11, x301_12, x301_13, x301_14, x301_15, x301_16, x301_17, x301_18, x301_19, x301_20, x301_21, x301_22, x301_23, x301_24, x301_25, x301_26, x301_27, x301_28, x301_29, x301_30, x301_31, x301_32, x301_33, x301_34, x301_35, x301_36, x301_37, x301_38, x301_39, x301_40, x301_41, x301_42, x301_43, x301_44, x301_45, x301_46, x301_47, x301_48, x301_49, x301_50, x301_51, x301_52, x301_53, x301_54, x301_55, x301_56, x301_57, x301_58, x301_59, x301_60, x301_61, x301_62, x301_63, x301_64, x301_65, x301_66, x301_67, x301_68, x301_69, x301_70, ↓reduceIte, Option.toList, List.nil_append, List.cons_append, nI_add, pk_mul, n_and, n_or, n_xor, nI_leI, nI_ltI, nI_eq, n_z, uI_s, uI_n, bI_n0, bI_n1, bT, bF, if_true, if_false, not_true, not_false_eq_true, pk_div, pk_rem, Nat.reduceEqDiff, Nat.reduceLeDiff, Nat.reduceLT, Nat.reduceAdd, Nat.reduceMul, Nat.reduceSub, Nat.not_lt_zero, Nat.zero_le, reduceCtorEq, ite_self, n_rem, and_self, and_true, true_and, and_false, false_and, hm, sp_houM_f hx]
end Notes
