/-! hush, gift, undo -/
theorem CI_sv {I I2 : Nat → Nat → Int32} {A A' B : Nat → Nat} (w : WW A B) (hC : CI I A B) (t : Twn I2 1 2 3 4 5 6 7 8 9 A') (s : Stw I2 28 29 A') (fA : ∀ k, k = 5 ∨ k = 6 ∨ k = 7 ∨ (72 ≤ k ∧ k < 119) → A' k = A k) (fI : ∀ c k, (10 ≤ c ∧ c ≤ 18) ∨ (30 ≤ c ∧ c ≤ 45) → I2 c k = I c k) : CI I2 A' B := by
  obtain ⟨t1, t2, s1, s2, n1, n2⟩ := hC
  obtain ⟨wA, wB, wt⟩ := w
  exact ⟨t, Twn_c t2 (fun c k hc => fI c k (by omega)) (fun _ _ _ _ => rfl) ⟨wB.1.1, wB.1.2.1⟩, s, Stw_c s2 (fun c k hc => fI c k (by omega)) rfl (fun _ _ _ => rfl) wB, Nts_c n1 (fun c k hc => fI c k (by omega)) fA wA.1, Nts_c n2 (fun c k hc => fI c k (by omega)) (fun _ _ => rfl) wB.1⟩
theorem sv_T {I I' : Nat → Nat → Int32} {A : Nat → Nat} (w : Wf A) (t : Twn I 1 2 3 4 5 6 7 8 9 A) (f : ∀ c k, c ≠ 28 ∧ c ≠ 29 → I' c k = I c k) : Twn I' 1 2 3 4 5 6 7 8 9 (svA A) := Twn_c t (fun c k hc => f c k (by omega)) (fun k h1 h2 h3 => sv_o w.1.2.2.2.2.1 (by omega)) ⟨w.1.1, w.1.2.1⟩
theorem keep_lt {A : Nat → Nat} {h : Nat} (w : Wf A) (hh : h < 8) : A (12 + h) < 16 := by
  have := w.2.1.1 h hh
  have := Nat.pow_le_pow_right (show 0 < 2 by decide) w.1.2.1
  omega
section Hush
variable {TX : (Nat → Nat → Int32) → Nat → Prop} {sc : Sc} {d : Nat}
theorem jp_hush {x y : Int32} : JtP TX P2 sc (d + 5) 117 244 [some (.ref 0), some (.int x), some (.int y)] [some (.ref 89), some (.int x), some (.int y)] := by
  intro A B M w _
  have w' := w
  obtain ⟨wA, wB, wt⟩ := w
  have w0 : A 0 ≤ 12 := wA.1.1
  have w1 : A 1 ≤ 4 := wA.1.2.1
  have w4 : A 4 ≤ 30 := wA.1.2.2.2.2.1
  by_cases hx : inR x 8
  · obtain ⟨h, hh, rfl⟩ := hx
    have lk := keep_lt wA hh
    by_cases hy : inR y (A 1)
    · obtain ⟨r, hr, rfl⟩ := hy
      by_cases hb : A (12 + h) / 2 ^ r % 2 = 1
      · have fA : ∀ k, (k < 119 ∧ k ≠ 4 ∧ k ≠ 12 + h) ∨ 1769 ≤ k → fgA (svA A) h r k = A k := fun k hk => (upA_n (by omega)).trans (sv_o w4 (by omega))
        have hr' : r < svA A 1 := by rw [sv_o w4 (by omega)]; exact hr
        have ev : svA A (12 + h) = A (12 + h) := sv_o w4 (by omega)
        have f2 : fgA (svA A) h r 2 = A 2 := fA 2 (by omega)
        refine ⟨nI 1, fgA (svA A) h r, B, Or.inr rfl, ⟨fg_W (sv_W wA) hh hr', wB, by omega⟩, by omega, ?_, ?_⟩
        · intro I J T hC _
          obtain ⟨I1, f1, s1, q1⟩ := sp_save (sc := sc) (d := d + 4) (J := J) (T := T) (u2 := none) (u3 := none) (u4 := none) wA hC.1 hC.2.2.1
          obtain ⟨I2, g1, t1, q2⟩ := sp_forgetTa (sc := sc) (d := d + 4) (J := J) (T := T) (sv_W wA) hh hr' (sv_T wA hC.1 f1)
          refine ⟨I2, fun c k hc => (g1 c k (by omega)).trans (f1 c k (by omega)), CI_sv w' hC t1 (Stw_c s1 (fun c k hc => g1 c k (by omega)) (upA_n (by omega)) (fun k h1 h2 => upA_n (by omega)) (sv_W wA)) (fun k hk => fA k (by omega)) (fun c k hc => (g1 c k (by omega)).trans (f1 c k (by omega))), fun Q => ?_⟩
          simp (disch := first | assumption | omega | decide) only [x117_0, x117_1, x117_2, x117_3, x117_4, x117_5, x117_6, x117_7, x117_8, x117_9, x117_10, x117_11, x117_12, x117_13, x117_14, x117_15, x117_16, x117_17, x117_18, x117_19, x117_20, x117_21, x117_22, x117_23, x117_24, x117_25, x117_26, x117_27, ↓reduceIte, Option.toList, List.nil_append, List.cons_append, nI_add, pk_mul, n_and, n_or, n_xor, nI_leI, nI_ltI, nI_eq, n_z, uI_s, uI_n, bI_n0, bI_n1, bT, bF, if_true, if_false, not_true, not_false_eq_true, pk_div, pk_rem, Nat.reduceEqDiff, Nat.reduceLeDiff, Nat.reduceLT, Nat.reduceAdd, Nat.reduceMul, Nat.reduceSub, Nat.not_lt_zero, Nat.zero_le, reduceCtorEq, ite_self, n_rem, and_self, and_true, true_and, and_false, false_and, sp_houC_t, sp_rumC_ta hr w1 (tw_rumours hC.1), sp_keepsCa hh hr w1 hC.1, hb, q1, q2]
        · intro I J T hM _
          have m : ∀ k, k < 1799 → I 90 k = nI (A k) := hM.1
          obtain ⟨I1, f1, a1, q1⟩ := sp_keepM (sc := sc) (d := d + 4) (J := J) (T := T) (u1 := none) (u2 := none) wA hM.1
          have m1 : ∀ k, k < 1799 → I1 90 k = nI (svA A k) := a1
          refine ⟨uI I1 90 (12 + h) (nI (clr (svA A (12 + h)) r)), J, ⟨fun c k hc => (uI_n (by omega)).trans (f1 c k (by omega)), fun k hk => (uI_n (by omega)).trans (f1 _ _ (by omega))⟩, ⟨AtM_u a1, AtM_c hM.2.1 (fun k => (uI_n (by omega)).trans (f1 _ _ (by omega))), ((uI_n (by omega)).trans (f1 _ _ (by omega))).trans hM.2.2⟩, fun Q => ?_⟩
          rw [ev, clr_t hb]
          simp (disch := first | assumption | omega | decide) only [x244_0, x244_1, x244_2, x244_3, x244_4, x244_5, x244_6, x244_7, x244_8, x244_9, x244_10, x244_11, x244_12, x244_13, x244_14, x244_15, x244_16, x244_17, x244_18, x244_19, x244_20, x244_21, x244_22, x237_0, x237_1, x237_2, x237_3, x237_4, x237_5, x237_6, x237_7, x237_8, x237_9, x237_10, x237_11, x237_12, x237_13, x237_14, x237_15, x237_16, x237_17, x237_18, x237_19, ↓reduceIte, Option.toList, List.nil_append, List.cons_append, nI_add, pk_mul, n_and, n_or, n_xor, nI_leI, nI_ltI, nI_eq, n_z, uI_s, uI_n, bI_n0, bI_n1, bT, bF, if_true, if_false, not_true, not_false_eq_true, pk_div, pk_rem, Nat.reduceEqDiff, Nat.reduceLeDiff, Nat.reduceLT, Nat.reduceAdd, Nat.reduceMul, Nat.reduceSub, Nat.not_lt_zero, Nat.zero_le, reduceCtorEq, ite_self, n_rem, and_self, and_true, true_and, and_false, false_and, sp_houM_t, sp_rumM_t hr w1 (hM.1 1 (by decide)), sp_has, m, hb, q1, m1, ev, n_one]
      · refine jtRP w' (nI 0) (Or.inl rfl) ?_ ?_ <;> intro I J T Q hI
        · simp (disch := first | assumption | omega | decide) only [x117_0, x117_1, x117_2, x117_3, x117_4, x117_5, x117_6, x117_7, x117_8, x117_9, x117_10, x117_11, x117_12, x117_13, x117_14, x117_15, x117_16, x117_17, x117_18, x117_19, x117_20, x117_21, x117_22, x117_23, x117_24, x117_25, x117_26, x117_27, ↓reduceIte, Option.toList, List.nil_append, List.cons_append, nI_add, pk_mul, n_and, n_or, n_xor, nI_leI, nI_ltI, nI_eq, n_z, uI_s, uI_n, bI_n0, bI_n1, bT, bF, if_true, if_false, not_true, not_false_eq_true, pk_div, pk_rem, Nat.reduceEqDiff, Nat.reduceLeDiff, Nat.reduceLT, Nat.reduceAdd, Nat.reduceMul, Nat.reduceSub, Nat.not_lt_zero, Nat.zero_le, reduceCtorEq, ite_self, n_rem, and_self, and_true, true_and, and_false, false_and, sp_houC_t, sp_rumC_ta hr w1 (tw_rumours hI.1), sp_keepsCa hh hr w1 hI.1, hb]
        · have m : ∀ k, k < 1799 → I 90 k = nI (A k) := hI.1
          simp (disch := first | assumption | omega | decide) only [x244_0, x244_1, x244_2, x244_3, x244_4, x244_5, x244_6, x244_7, x244_8, x244_9, x244_10, x244_11, x244_12, x244_13, x244_14, x244_15, x244_16, x244_17, x244_18, x244_19, x244_20, x244_21, x244_22, x237_0, x237_1, x237_2, x237_3, x237_4, x237_5, x237_6, x237_7, x237_8, x237_9, x237_10, x237_11, x237_12, x237_13, x237_14, x237_15, x237_16, x237_17, x237_18, x237_19, ↓reduceIte, Option.toList, List.nil_append, List.cons_append, nI_add, pk_mul, n_and, n_or, n_xor, nI_leI, nI_ltI, nI_eq, n_z, uI_s, uI_n, bI_n0, bI_n1, bT, bF, if_true, if_false, not_true, not_false_eq_true, pk_div, pk_rem, Nat.reduceEqDiff, Nat.reduceLeDiff, Nat.reduceLT, Nat.reduceAdd, Nat.reduceMul, Nat.reduceSub, Nat.not_lt_zero, Nat.zero_le, reduceCtorEq, ite_self, n_rem, and_self, and_true, true_and, and_false, false_and, sp_houM_t, sp_rumM_t hr w1 (hI.1 1 (by decide)), sp_has, m, hb]
    · refine jtRP w' (nI 0) (Or.inl rfl) ?_ ?_ <;> intro I J T Q hI
      · simp (disch := first | assumption | omega | decide) only [x117_0, x117_1, x117_2, x117_3, x117_4, x117_5, x117_6, x117_7, x117_8, x117_9, x117_10, x117_11, x117_12, x117_13, x117_14, x117_15, x117_16, x117_17, x117_18, x117_19, x117_20, x117_21, x117_22, x117_23, x117_24, x117_25, x117_26, x117_27, ↓reduceIte, Option.toList, List.nil_append, List.cons_append, nI_add, pk_mul, n_and, n_or, n_xor, nI_leI, nI_ltI, nI_eq, n_z, uI_s, uI_n, bI_n0, bI_n1, bT, bF, if_true, if_false, not_true, not_false_eq_true, pk_div, pk_rem, Nat.reduceEqDiff, Nat.reduceLeDiff, Nat.reduceLT, Nat.reduceAdd, Nat.reduceMul, Nat.reduceSub, Nat.not_lt_zero, Nat.zero_le, reduceCtorEq, ite_self, n_rem, and_self, and_true, true_and, and_false, false_and, sp_houC_t, sp_rumC_fa hy w1 (tw_rumours hI.1)]
      · simp (disch := first | assumption | omega | decide) only [x244_0, x244_1, x244_2, x244_3, x244_4, x244_5, x244_6, x244_7, x244_8, x244_9, x244_10, x244_11, x244_12, x244_13, x244_14, x244_15, x244_16, x244_17, x244_18, x244_19, x244_20, x244_21, x244_22, x237_0, x237_1, x237_2, x237_3, x237_4, x237_5, x237_6, x237_7, x237_8, x237_9, x237_10, x237_11, x237_12, x237_13, x237_14, x237_15, x237_16, x237_17, x237_18, x237_19, ↓reduceIte, Option.toList, List.nil_append, List.cons_append, nI_add, pk_mul, n_and, n_or, n_xor, nI_leI, nI_ltI, nI_eq, n_z, uI_s, uI_n, bI_n0, bI_n1, bT, bF, if_true, if_false, not_true, not_false_eq_true, pk_div, pk_rem, Nat.reduceEqDiff, Nat.reduceLeDiff, Nat.reduceLT, Nat.reduceAdd, Nat.reduceMul, Nat.reduceSub, Nat.not_lt_zero, Nat.zero_le, reduceCtorEq, ite_self, n_rem, and_self, and_true, true_and, and_false, false_and, sp_houM_t, sp_rumM_f hy w1 (hI.1 1 (by decide))]
  · refine jtRP w' (nI 0) (Or.inl rfl) ?_ ?_ <;> intro I J T Q hI
    · simp (disch := first | assumption | omega | decide) only [x117_0, x117_1, x117_2, x117_3, x117_4, x117_5, x117_6, x117_7, x117_8, x117_9, x117_10, x117_11, x117_12, x117_13, x117_14, x117_15, x117_16, x117_17, x117_18, x117_19, x117_20, x117_21, x117_22, x117_23, x117_24, x117_25, x117_26, x117_27, ↓reduceIte, Option.toList, List.nil_append, List.cons_append, nI_add, pk_mul, n_and, n_or, n_xor, nI_leI, nI_ltI, nI_eq, n_z, uI_s, uI_n, bI_n0, bI_n1, bT, bF, if_true, if_false, not_true, not_false_eq_true, pk_div, pk_rem, Nat.reduceEqDiff, Nat.reduceLeDiff, Nat.reduceLT, Nat.reduceAdd, Nat.reduceMul, Nat.reduceSub, Nat.not_lt_zero, Nat.zero_le, reduceCtorEq, ite_self, n_rem, and_self, and_true, true_and, and_false, false_and, sp_houC_f hx]
    · simp (disch := first | assumption | omega | decide) only [x244_0, x244_1, x244_2, x244_3, x244_4, x244_5, x244_6, x244_7, x244_8, x244_9, x244_10, x244_11, x244_12, x244_13, x244_14, x244_15, x244_16, x244_17, x244_18, x244_19, x244_20, x244_21, x244_22, x237_0, x237_1, x237_2, x237_3, x237_4, x237_5, x237_6, x237_7, x237_8, x237_9, x237_10, x237_11, x237_12, x237_13, x237_14, x237_15, x237_16, x237_17, x237_18, x237_19, ↓reduceIte, Option.toList, List.nil_append, List.cons_append, nI_add, pk_mul, n_and, n_or, n_xor, nI_leI, nI_ltI, nI_eq, n_z, uI_s, uI_n, bI_n0, bI_n1, bT, bF, if_true, if_false, not_true, not_false_eq_true, pk_div, pk_rem, Nat.reduceEqDiff, Nat.reduceLeDiff, Nat.reduceLT, Nat.reduceAdd, Nat.reduceMul, Nat.reduceSub, Nat.not_lt_zero, Nat.zero_le, reduceCtorEq, ite_self, n_rem, and_self, and_true, true_and, and_false, false_and, sp_houM_f hx]
theorem jt_hush {x y : Int32} : Jt TX sc (d + 5) 117 244 [some (.ref 0), some (.int x), some (.int y)] [some (.ref 89), some (.int x), some (.int y)] := JtP_f jp_hush
/-- a purse changed -/
theorem pu_W {A : Nat → Nat} {r v : Nat} (w : Wf A) (hr : r < 4) (hv : v ≤ 9999) : Wf (upA A (28 + r) v) := by
  have wA := w
  obtain ⟨A', eA⟩ : ∃ X, X = upA A (28 + r) v := ⟨_, rfl⟩
  have fA : ∀ k, k ≠ 28 + r → A' k = A k := fun k hk => by rw [eA]; exact upA_n hk
  rw [← eA]
  refine ⟨(Wf1_c (fun k hk => fA k (by omega)) wA.1), ?_, (Wf3_c (fun k hk => fA k (by omega)) wA.1.1 wA.2.2.1), (Wf4_c (fun k hk => fA k (by omega)) wA.1 wA.2.2.2.1), (Wf5_c (fun k hk => fA k (by omega)) wA.1.2.2.2.2.1 wA.2.2.2.2)⟩
  obtain ⟨v1, v2, v3, v4, v5, v6, v7⟩ := wA.2.1
  refine ⟨?_, ?_, ?_, ?_, ?_, ?_, ?_⟩
  · intro j hj; rw [fA _ (by omega), fA 1 (by omega)]; exact v1 j hj
  · intro j hj; rw [fA _ (by omega)]; exact v2 j hj
  · intro j hj; rw [fA _ (by omega)]; exact v3 j hj
  · intro j hj
    by_cases e : j = r
    · rw [eA, upA_e (by omega)]; exact hv
    · rw [fA _ (by omega)]; exact v4 j hj
  · intro j hj; rw [fA _ (by omega)]; exact v5 j hj
  · intro j hj; rw [fA _ (by omega)]; exact v6 j hj
  · intro j hj; rw [fA _ (by omega)]; exact v7 j hj
theorem pu_Ta {I : Nat → Nat → Int32} {A : Nat → Nat} {r v : Nat} (w : Wf A) (hr : r < A 1) (t : Twn I 1 2 3 4 5 6 7 8 9 A) : Twn (uI I 6 r (nI v)) 1 2 3 4 5 6 7 8 9 (upA A (28 + r) v) := by
  have w0 : A 0 ≤ 12 := w.1.1
  have w1 : A 1 ≤ 4 := w.1.2.1
  have fI : ∀ c k, c ≠ 6 ∨ k ≠ r → uI I 6 r (nI v) c k = I c k := fun c k hk => uI_n hk
  have fA : ∀ k, k ≠ 28 + r → upA A (28 + r) v k = A k := fun k hk => upA_n hk
  have f1 : upA A (28 + r) v 1 = A 1 := fA 1 (by omega)
  refine ⟨(fun h hh => by rw [fI _ _ (by omega), fA _ (by omega)]; exact tw_rooms t hh), (fun h hh => by rw [fI _ _ (by omega), fA _ (by omega)]; exact tw_income t hh), (fun h hh => by rw [fI _ _ (by omega), bes_c (fun k hk => fA k (by omega)) w0]; exact tw_beside t hh), (fun r hr => by rw [f1] at hr; rw [fI _ _ (by omega), fA _ (by omega)]; exact tw_truth t hr), ?_, (fun r hr => by rw [f1] at hr; rw [fI _ _ (by omega), fA _ (by omega)]; exact tw_told t hr), (fun r hr => by rw [f1] at hr; rw [fI _ _ (by omega), kpr_c (fun h hh => fA _ (by omega))]; exact tw_keepers t hr), (fun h hh => by rw [fI _ _ (by omega), fA _ (by omega)]; exact tw_pages t hh), (by rw [fI _ _ (by omega), fA _ (by omega)]; exact tw_written t), (by rw [fI _ _ (by omega), fA _ (by omega)]; exact tw_roads t), (by rw [fI _ _ (by omega), fA _ (by omega)]; exact tw_rumours t), (by rw [fI _ _ (by omega), fA _ (by omega)]; exact tw_day t), (by rw [fI _ _ (by omega), fA _ (by omega)]; exact tw_x t), (by rw [fI _ _ (by omega), fA _ (by omega)]; exact tw_paid t), (by rw [fI _ _ (by omega), fA _ (by omega)]; exact tw_texts t), (by rw [fI _ _ (by omega), fA _ (by omega)]; exact tw_ruling t)⟩
  intro s hs
  rw [f1] at hs
  by_cases e : s = r
  · rw [uI_e e, upA_e (by omega)]
  · rw [fI _ _ (by omega), fA _ (by omega)]
    exact tw_purse t hs
theorem pu_Tb {I : Nat → Nat → Int32} {A : Nat → Nat} {r v : Nat} (w : Wf A) (hr : r < A 1) (t : Twn I 19 20 21 22 23 24 25 26 27 A) : Twn (uI I 24 r (nI v)) 19 20 21 22 23 24 25 26 27 (upA A (28 + r) v) := by
  have w0 : A 0 ≤ 12 := w.1.1
  have w1 : A 1 ≤ 4 := w.1.2.1
  have fI : ∀ c k, c ≠ 24 ∨ k ≠ r → uI I 24 r (nI v) c k = I c k := fun c k hk => uI_n hk
  have fA : ∀ k, k ≠ 28 + r → upA A (28 + r) v k = A k := fun k hk => upA_n hk
  have f1 : upA A (28 + r) v 1 = A 1 := fA 1 (by omega)
  refine ⟨(fun h hh => by rw [fI _ _ (by omega), fA _ (by omega)]; exact tw_rooms t hh), (fun h hh => by rw [fI _ _ (by omega), fA _ (by omega)]; exact tw_income t hh), (fun h hh => by rw [fI _ _ (by omega), bes_c (fun k hk => fA k (by omega)) w0]; exact tw_beside t hh), (fun r hr => by rw [f1] at hr; rw [fI _ _ (by omega), fA _ (by omega)]; exact tw_truth t hr), ?_, (fun r hr => by rw [f1] at hr; rw [fI _ _ (by omega), fA _ (by omega)]; exact tw_told t hr), (fun r hr => by rw [f1] at hr; rw [fI _ _ (by omega), kpr_c (fun h hh => fA _ (by omega))]; exact tw_keepers t hr), (fun h hh => by rw [fI _ _ (by omega), fA _ (by omega)]; exact tw_pages t hh), (by rw [fI _ _ (by omega), fA _ (by omega)]; exact tw_written t), (by rw [fI _ _ (by omega), fA _ (by omega)]; exact tw_roads t), (by rw [fI _ _ (by omega), fA _ (by omega)]; exact tw_rumours t), (by rw [fI _ _ (by omega), fA _ (by omega)]; exact tw_day t), (by rw [fI _ _ (by omega), fA _ (by omega)]; exact tw_x t), (by rw [fI _ _ (by omega), fA _ (by omega)]; exact tw_paid t), (by rw [fI _ _ (by omega), fA _ (by omega)]; exact tw_texts t), (by rw [fI _ _ (by omega), fA _ (by omega)]; exact tw_ruling t)⟩
  intro s hs
  rw [f1] at hs
  by_cases e : s = r
  · rw [uI_e e, upA_e (by omega)]
  · rw [fI _ _ (by omega), fA _ (by omega)]
    exact tw_purse t hs
theorem jt_gift {x y : Int32} : Jt TX sc (d + 5) 118 245 [some (.ref 0), some (.int x), some (.int y)] [some (.ref 89), some (.int x), some (.int y)] := by
  intro A B M w _
  have w' := w
  obtain ⟨wA, wB, wt⟩ := w
  have w0 : A 0 ≤ 12 := wA.1.1
  have w1 : A 1 ≤ 4 := wA.1.2.1
  have w4 : A 4 ≤ 30 := wA.1.2.2.2.2.1
  by_cases hx : inR x (A 1)
  · obtain ⟨r, hr, rfl⟩ := hx
    have lp : A (28 + r) ≤ 9999 := wA.2.1.2.2.2.1 r (by omega)
    by_cases hy : inR y 1000
    · obtain ⟨s, hs, rfl⟩ := hy
      by_cases hs0 : s = 0
      · subst hs0
        refine jtR w' (nI 0) ?_ ?_ <;> intro I J T Q hI
        · simp (disch := first | assumption | omega | decide) only [x118_0, x118_1, x118_2, x118_3, x118_4, x118_5, x118_6, x118_7, x118_8, x118_9, x118_10, x118_11, x118_12, x118_13, x118_14, x118_15, x118_16, x118_17, x118_18, x118_19, x118_20, x118_21, x118_22, x118_23, x118_24, x118_25, x118_26, x118_27, x118_28, x118_29, x118_30, x118_31, x118_32, x118_33, x118_34, x118_35, x118_36, ↓reduceIte, Option.toList, List.nil_append, List.cons_append, nI_add, pk_mul, n_and, n_or, n_xor, nI_leI, nI_ltI, nI_eq, n_z, uI_s, uI_n, bI_n0, bI_n1, bT, bF, if_true, if_false, not_true, not_false_eq_true, pk_div, pk_rem, Nat.reduceEqDiff, Nat.reduceLeDiff, Nat.reduceLT, Nat.reduceAdd, Nat.reduceMul, Nat.reduceSub, Nat.not_lt_zero, Nat.zero_le, reduceCtorEq, ite_self, n_rem, and_self, and_true, true_and, and_false, false_and, sp_rumC_ta hr w1 (tw_rumours hI.1), sp_isWithin, ↓in_l]
        · simp (disch := first | assumption | omega | decide) only [x245_0, x245_1, x245_2, x245_3, x245_4, x245_5, x245_6, x245_7, x245_8, x245_9, x245_10, x245_11, x245_12, x245_13, x245_14, x245_15, x245_16, x245_17, x245_18, x245_19, x245_20, x238_0, x238_1, x238_2, x238_3, x238_4, x238_5, x238_6, x238_7, x238_8, x238_9, x238_10, x238_11, x238_12, x238_13, x238_14, x238_15, x238_16, x238_17, x238_18, x238_19, x238_20, x238_21, x238_22, ↓reduceIte, Option.toList, List.nil_append, List.cons_append, nI_add, pk_mul, n_and, n_or, n_xor, nI_leI, nI_ltI, nI_eq, n_z, uI_s, uI_n, bI_n0, bI_n1, bT, bF, if_true, if_false, not_true, not_false_eq_true, pk_div, pk_rem, Nat.reduceEqDiff, Nat.reduceLeDiff, Nat.reduceLT, Nat.reduceAdd, Nat.reduceMul, Nat.reduceSub, Nat.not_lt_zero, Nat.zero_le, reduceCtorEq, ite_self, n_rem, and_self, and_true, true_and, and_false, false_and, sp_rumM_t hr w1 (hI.1 1 (by decide)), sp_isIn, ↓in_l]
      · by_cases hb : A (28 + r) + s ≤ 9999
        · have hb' : ¬ 9999 < A (28 + r) + s := by omega
          have fA : ∀ k, (k < 119 ∧ k ≠ 4 ∧ k ≠ 28 + r) ∨ 1769 ≤ k → upA (svA A) (28 + r) (A (28 + r) + s) k = A k := fun k hk => (upA_n (by omega)).trans (sv_o w4 (by omega))
          have hr' : r < svA A 1 := by rw [sv_o w4 (by omega)]; exact hr
          have ev : svA A (28 + r) = A (28 + r) := sv_o w4 (by omega)
          have f2 : upA (svA A) (28 + r) (A (28 + r) + s) 2 = A 2 := fA 2 (by omega)
          refine ⟨nI 1, upA (svA A) (28 + r) (A (28 + r) + s), B, ⟨pu_W (sv_W wA) (by omega) hb, wB, by omega⟩, by omega, ?_, ?_⟩
          · intro I J T hC _
            obtain ⟨I1, f1, s1, q1⟩ := sp_save (sc := sc) (d := d + 4) (J := J) (T := T) (u2 := none) (u3 := none) (u4 := none) wA hC.1 hC.2.2.1
            have t1 := pu_Ta (v := A (28 + r) + s) (sv_W wA) hr' (sv_T wA hC.1 f1)
            refine ⟨uI I1 6 r (nI (A (28 + r) + s)), fun c k hc => (uI_n (by omega)).trans (f1 c k (by omega)), CI_sv w' hC t1 (Stw_c s1 (fun c k hc => uI_n (by omega)) (upA_n (by omega)) (fun k h1 h2 => upA_n (by omega)) (sv_W wA)) (fun k hk => fA k (by omega)) (fun c k hc => (uI_n (by omega)).trans (f1 c k (by omega))), fun Q => ?_⟩
            simp (disch := first | assumption | omega | decide) only [x118_0, x118_1, x118_2, x118_3, x118_4, x118_5, x118_6, x118_7, x118_8, x118_9, x118_10, x118_11, x118_12, x118_13, x118_14, x118_15, x118_16, x118_17, x118_18, x118_19, x118_20, x118_21, x118_22, x118_23, x118_24, x118_25, x118_26, x118_27, x118_28, x118_29, x118_30, x118_31, x118_32, x118_33, x118_34, x118_35, x118_36, ↓reduceIte, Option.toList, List.nil_append, List.cons_append, nI_add, pk_mul, n_and, n_or, n_xor, nI_leI, nI_ltI, nI_eq, n_z, uI_s, uI_n, bI_n0, bI_n1, bT, bF, if_true, if_false, not_true, not_false_eq_true, pk_div, pk_rem, Nat.reduceEqDiff, Nat.reduceLeDiff, Nat.reduceLT, Nat.reduceAdd, Nat.reduceMul, Nat.reduceSub, Nat.not_lt_zero, Nat.zero_le, reduceCtorEq, ite_self, n_rem, and_self, and_true, true_and, and_false, false_and, sp_rumC_ta hr w1 (tw_rumours hC.1), sp_isWithin, ↓in_t, tw_purse hC.1 hr, hb, q1, f1 6 r (by omega)]
          · intro I J T hM _
            have m : ∀ k, k < 1799 → I 90 k = nI (A k) := hM.1
            obtain ⟨I1, f1, a1, q1⟩ := sp_keepM (sc := sc) (d := d + 4) (J := J) (T := T) (u1 := none) (u2 := none) wA hM.1
            have m1 : ∀ k, k < 1799 → I1 90 k = nI (svA A k) := a1
            refine ⟨uI I1 90 (28 + r) (nI (A (28 + r) + s)), J, ⟨fun c k hc => (uI_n (by omega)).trans (f1 c k (by omega)), fun k hk => (uI_n (by omega)).trans (f1 _ _ (by omega))⟩, ⟨AtM_u a1, AtM_c hM.2.1 (fun k => (uI_n (by omega)).trans (f1 _ _ (by omega))), ((uI_n (by omega)).trans (f1 _ _ (by omega))).trans hM.2.2⟩, fun Q => ?_⟩
            simp (disch := first | assumption | omega | decide) only [x245_0, x245_1, x245_2, x245_3, x245_4, x245_5, x245_6, x245_7, x245_8, x245_9, x245_10, x245_11, x245_12, x245_13, x245_14, x245_15, x245_16, x245_17, x245_18, x245_19, x245_20, x238_0, x238_1, x238_2, x238_3, x238_4, x238_5, x238_6, x238_7, x238_8, x238_9, x238_10, x238_11, x238_12, x238_13, x238_14, x238_15, x238_16, x238_17, x238_18, x238_19, x238_20, x238_21, x238_22, ↓reduceIte, Option.toList, List.nil_append, List.cons_append, nI_add, pk_mul, n_and, n_or, n_xor, nI_leI, nI_ltI, nI_eq, n_z, uI_s, uI_n, bI_n0, bI_n1, bT, bF, if_true, if_false, not_true, not_false_eq_true, pk_div, pk_rem, Nat.reduceEqDiff, Nat.reduceLeDiff, Nat.reduceLT, Nat.reduceAdd, Nat.reduceMul, Nat.reduceSub, Nat.not_lt_zero, Nat.zero_le, reduceCtorEq, ite_self, n_rem, and_self, and_true, true_and, and_false, false_and, sp_rumM_t hr w1 (hM.1 1 (by decide)), sp_isIn, ↓in_t, m, hb', q1, m1, ev]
        · have hb' : 9999 < A (28 + r) + s := by omega
          refine jtR w' (nI 0) ?_ ?_ <;> intro I J T Q hI
          · simp (disch := first | assumption | omega | decide) only [x118_0, x118_1, x118_2, x118_3, x118_4, x118_5, x118_6, x118_7, x118_8, x118_9, x118_10, x118_11, x118_12, x118_13, x118_14, x118_15, x118_16, x118_17, x118_18, x118_19, x118_20, x118_21, x118_22, x118_23, x118_24, x118_25, x118_26, x118_27, x118_28, x118_29, x118_30, x118_31, x118_32, x118_33, x118_34, x118_35, x118_36, ↓reduceIte, Option.toList, List.nil_append, List.cons_append, nI_add, pk_mul, n_and, n_or, n_xor, nI_leI, nI_ltI, nI_eq, n_z, uI_s, uI_n, bI_n0, bI_n1, bT, bF, if_true, if_false, not_true, not_false_eq_true, pk_div, pk_rem, Nat.reduceEqDiff, Nat.reduceLeDiff, Nat.reduceLT, Nat.reduceAdd, Nat.reduceMul, Nat.reduceSub, Nat.not_lt_zero, Nat.zero_le, reduceCtorEq, ite_self, n_rem, and_self, and_true, true_and, and_false, false_and, sp_rumC_ta hr w1 (tw_rumours hI.1), sp_isWithin, ↓in_t, tw_purse hI.1 hr, hb]
          · have m : ∀ k, k < 1799 → I 90 k = nI (A k) := hI.1
            simp (disch := first | assumption | omega | decide) only [x245_0, x245_1, x245_2, x245_3, x245_4, x245_5, x245_6, x245_7, x245_8, x245_9, x245_10, x245_11, x245_12, x245_13, x245_14, x245_15, x245_16, x245_17, x245_18, x245_19, x245_20, x238_0, x238_1, x238_2, x238_3, x238_4, x238_5, x238_6, x238_7, x238_8, x238_9, x238_10, x238_11, x238_12, x238_13, x238_14, x238_15, x238_16, x238_17, x238_18, x238_19, x238_20, x238_21, x238_22, ↓reduceIte, Option.toList, List.nil_append, List.cons_append, nI_add, pk_mul, n_and, n_or, n_xor, nI_leI, nI_ltI, nI_eq, n_z, uI_s, uI_n, bI_n0, bI_n1, bT, bF, if_true, if_false, not_true, not_false_eq_true, pk_div, pk_rem, Nat.reduceEqDiff, Nat.reduceLeDiff, Nat.reduceLT, Nat.reduceAdd, Nat.reduceMul, Nat.reduceSub, Nat.not_lt_zero, Nat.zero_le, reduceCtorEq, ite_self, n_rem, and_self, and_true, true_and, and_false, false_and, sp_rumM_t hr w1 (hI.1 1 (by decide)), sp_isIn, ↓in_t, m, hb']
    · have e1 : bI (nI 1 ≤ y ∧ y ≤ nI 999) = nI 0 := by
        rw [bI_f]
        rintro ⟨h1, h2⟩
        have := nr_f hy (by decide)
        rw [← this]
        exact ⟨Int32.le_trans (by decide) h1, h2⟩
      refine jtR w' (nI 0) ?_ ?_ <;> intro I J T Q hI
      · simp (disch := first | assumption | omega | decide) only [x118_0, x118_1, x118_2, x118_3, x118_4, x118_5, x118_6, x118_7, x118_8, x118_9, x118_10, x118_11, x118_12, x118_13, x118_14, x118_15, x118_16, x118_17, x118_18, x118_19, x118_20, x118_21, x118_22, x118_23, x118_24, x118_25, x118_26, x118_27, x118_28, x118_29, x118_30, x118_31, x118_32, x118_33, x118_34, x118_35, x118_36, ↓reduceIte, Option.toList, List.nil_append, List.cons_append, nI_add, pk_mul, n_and, n_or, n_xor, nI_leI, nI_ltI, nI_eq, n_z, uI_s, uI_n, bI_n0, bI_n1, bT, bF, if_true, if_false, not_true, not_false_eq_true, pk_div, pk_rem, Nat.reduceEqDiff, Nat.reduceLeDiff, Nat.reduceLT, Nat.reduceAdd, Nat.reduceMul, Nat.reduceSub, Nat.not_lt_zero, Nat.zero_le, reduceCtorEq, ite_self, n_rem, and_self, and_true, true_and, and_false, false_and, sp_rumC_ta hr w1 (tw_rumours hI.1), sp_isWithin, e1]
      · simp (disch := first | assumption | omega | decide) only [x245_0, x245_1, x245_2, x245_3, x245_4, x245_5, x245_6, x245_7, x245_8, x245_9, x245_10, x245_11, x245_12, x245_13, x245_14, x245_15, x245_16, x245_17, x245_18, x245_19, x245_20, x238_0, x238_1, x238_2, x238_3, x238_4, x238_5, x238_6, x238_7, x238_8, x238_9, x238_10, x238_11, x238_12, x238_13, x238_14, x238_15, x238_16, x238_17, x238_18, x238_19, x238_20, x238_21, x238_22, ↓reduceIte, Option.toList, List.nil_append, List.cons_append, nI_add, pk_mul, n_and, n_or, n_xor, nI_leI, nI_ltI, nI_eq, n_z, uI_s, uI_n, bI_n0, bI_n1, bT, bF, if_true, if_false, not_true, not_false_eq_true, pk_div, pk_rem, Nat.reduceEqDiff, Nat.reduceLeDiff, Nat.reduceLT, Nat.reduceAdd, Nat.reduceMul, Nat.reduceSub, Nat.not_lt_zero, Nat.zero_le, reduceCtorEq, ite_self, n_rem, and_self, and_true, true_and, and_false, false_and, sp_rumM_t hr w1 (hI.1 1 (by decide)), sp_isIn, e1]
  · refine jtR w' (nI 0) ?_ ?_ <;> intro I J T Q hI
    · simp (disch := first | assumption | omega | decide) only [x118_0, x118_1, x118_2, x118_3, x118_4, x118_5, x118_6, x118_7, x118_8, x118_9, x118_10, x118_11, x118_12, x118_13, x118_14, x118_15, x118_16, x118_17, x118_18, x118_19, x118_20, x118_21, x118_22, x118_23, x118_24, x118_25, x118_26, x118_27, x118_28, x118_29, x118_30, x118_31, x118_32, x118_33, x118_34, x118_35, x118_36, ↓reduceIte, Option.toList, List.nil_append, List.cons_append, nI_add, pk_mul, n_and, n_or, n_xor, nI_leI, nI_ltI, nI_eq, n_z, uI_s, uI_n, bI_n0, bI_n1, bT, bF, if_true, if_false, not_true, not_false_eq_true, pk_div, pk_rem, Nat.reduceEqDiff, Nat.reduceLeDiff, Nat.reduceLT, Nat.reduceAdd, Nat.reduceMul, Nat.reduceSub, Nat.not_lt_zero, Nat.zero_le, reduceCtorEq, ite_self, n_rem, and_self, and_true, true_and, and_false, false_and, sp_rumC_fa hx w1 (tw_rumours hI.1)]
    · simp (disch := first | assumption | omega | decide) only [x245_0, x245_1, x245_2, x245_3, x245_4, x245_5, x245_6, x245_7, x245_8, x245_9, x245_10, x245_11, x245_12, x245_13, x245_14, x245_15, x245_16, x245_17, x245_18, x245_19, x245_20, x238_0, x238_1, x238_2, x238_3, x238_4, x238_5, x238_6, x238_7, x238_8, x238_9, x238_10, x238_11, x238_12, x238_13, x238_14, x238_15, x238_16, x238_17, x238_18, x238_19, x238_20, x238_21, x238_22, ↓reduceIte, Option.toList, List.nil_append, List.cons_append, nI_add, pk_mul, n_and, n_or, n_xor, nI_leI, nI_ltI, nI_eq, n_z, uI_s, uI_n, bI_n0, bI_n1, bT, bF, if_true, if_false, not_true, not_false_eq_true, pk_div, pk_rem, Nat.reduceEqDiff, Nat.reduceLeDiff, Nat.reduceLT, Nat.reduceAdd, Nat.reduceMul, Nat.reduceSub, Nat.not_lt_zero, Nat.zero_le, reduceCtorEq, ite_self, n_rem, and_self, and_true, true_and, and_false, false_and, sp_rumM_f hx w1 (hI.1 1 (by decide))]
end Hush
