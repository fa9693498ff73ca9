/-! far, out, centre, wide, parts, path -/
theorem bl_ne {A : Nat → Nat} {m a n : Nat} : ¬ bl A m a n = 0 := fun e => by
  have := bl_a (A := A) (m := m) (a := a) (n := n)
  rw [e, Nat.zero_testBit] at this
  cases this
theorem dvD_t {n : Nat} (h : n < 8) : dvD n = nI n := if_pos h
theorem dvD_f {n : Nat} (h : ¬ n < 8) : dvD n = -1 := if_neg h
theorem mx_s {A : Nat → Nat} {h j : Nat} : (if nI (mxN A h j) < dvD (ds A h j) then dvD (ds A h j) else nI (mxN A h j)) = nI (mxN A h (j + 1)) := by
  have l1 := mx_le (A := A) (h := h) j
  rw [mxN]
  by_cases c : ds A h j < 8
  · rw [dvD_t c]
    by_cases c2 : mxN A h j < ds A h j
    · rw [if_pos ((nI_ltI (by omega) (by omega)).mpr c2), if_pos ⟨c2, c⟩]
    · rw [if_neg (fun h => c2 ((nI_ltI (by omega) (by omega)).mp h)), if_neg (fun h => c2 h.1)]
  · rw [dvD_f c, if_neg (of_eq_false (n_m1gt (by omega))), if_neg (fun h => c h.2)]
theorem BsC_of {I : Nat → Nat → Int32} {A B : Nat → Nat} (h : CI I A B) : BsC I A := fun _ hh => tw_beside h.1 hh
section Far
variable {TX : (Nat → Nat → Int32) → Nat → Prop} {sc : Sc} {d : Nat}
theorem sp_farC {I : Nat → Nat → Int32} {J : Nat → Nat → Int64} {T : Option Nat} {Q : Option Value → Mm → Prop} {A : Nat → Nat} {h : Nat} {u2 u3 : Option Value} (hh : h < 8) (e : ∀ a h, a < 8 → h < 8 → I 73 (a * 8 + h) = dvD (ds A a h)) : Rn sc (d + 1) 67 0 [some (.ref 72), some (.int (nI h)), u2, u3] [] (K0, I, J, R1 T) Q = Q (some (.int (nI (mx A h)))) (K0, I, J, R1 T) := by
  have hi := iter0 (fun j => Rn sc (d + 1) 67 4 [some (.ref 72), some (.int (nI h)), some (.int (nI (mxN A h j))), some (.int (nI j))] [] (K0, I, J, R1 T) Q) 8 (by
    intro j hj
    show Rn _ _ _ _ _ _ _ _ = Rn _ _ _ _ _ _ _ _
    have lj : ¬ 8 ≤ j := by omega
    rw [x67_4, ← mx_s]
    simp (disch := first | assumption | omega | decide) only [x67_0, x67_1, x67_2, x67_3, x67_5, x67_6, x67_7, x67_8, x67_9, x67_10, x67_11, x67_12, x67_13, x67_14, x67_15, x67_16, x67_17, ↓reduceIte, Option.toList, List.nil_append, List.cons_append, nI_add, pk_mul, n_and, n_or, n_xor, nI_leI, nI_ltI, nI_eq, n_z, uI_s, uI_n, bI_n0, bI_n1, bT, bF, if_true, if_false, not_true, not_false_eq_true, pk_div, pk_rem, Nat.reduceEqDiff, Nat.reduceLeDiff, Nat.reduceLT, Nat.reduceAdd, Nat.reduceMul, Nat.reduceSub, Nat.not_lt_zero, Nat.zero_le, reduceCtorEq, ite_self, n_rem, and_self, and_true, true_and, and_false, false_and, lj, sp_dist hh hj e])
  simp (disch := first | assumption | omega | decide) only [x67_0, x67_1, x67_2, x67_3, x67_5, x67_6, x67_7, x67_8, x67_9, x67_10, x67_11, x67_12, x67_13, x67_14, x67_15, x67_16, x67_17]
  refine Eq.trans hi ?_
  show Rn _ _ _ _ _ _ _ _ = _
  rw [x67_4]
  simp (disch := first | assumption | omega | decide) only [x67_0, x67_1, x67_2, x67_3, x67_5, x67_6, x67_7, x67_8, x67_9, x67_10, x67_11, x67_12, x67_13, x67_14, x67_15, x67_16, x67_17, ↓reduceIte, Option.toList, List.nil_append, List.cons_append, nI_add, pk_mul, n_and, n_or, n_xor, nI_leI, nI_ltI, nI_eq, n_z, uI_s, uI_n, bI_n0, bI_n1, bT, bF, if_true, if_false, not_true, not_false_eq_true, pk_div, pk_rem, Nat.reduceEqDiff, Nat.reduceLeDiff, Nat.reduceLT, Nat.reduceAdd, Nat.reduceMul, Nat.reduceSub, Nat.not_lt_zero, Nat.zero_le, reduceCtorEq, ite_self, n_rem, and_self, and_true, true_and, and_false, false_and, Nat.le_refl]
  rfl
theorem sp_outM {I : Nat → Nat → Int32} {J : Nat → Nat → Int64} {T : Option Nat} {A : Nat → Nat} {h : Nat} (hh : h < 8) (w : Wf A) (mA : AtM I 90 A) : ∃ I', (∀ c k, c ≠ 99 → I' c k = I c k) ∧ ∀ Q, Rn sc (d + 2) 267 0 [some (.ref 89), some (.int (nI h)), none, none, none] [] (K0, I, J, R1 T) Q = Q (some (.int (nI (mx A h)))) (K0, I', J, R1 T) := by
  obtain ⟨I1, k1, f1, q1⟩ := sp_lay (sc := sc) (d := d) (J := J) (T := T) hh (show 255 < 256 by decide) w mA
  refine ⟨I1, f1, fun Q => ?_⟩
  have lb := bl_lt (A := A) (m := 255) hh (by decide) 7
  have hi := iter0 (fun j => Rn sc (d + 2) 267 9 [some (.ref 89), some (.int (nI h)), some (.int (nI (mxN A h j))), some (.int (nI (bl A 255 h 7))), some (.int (nI j))] [] (K0, I1, J, R1 T) Q) 8 (by
    intro j hj
    show Rn _ _ _ _ _ _ _ _ = Rn _ _ _ _ _ _ _ _
    have lj : ¬ 8 ≤ j := by omega
    have l1 := mx_le (A := A) (h := h) j
    have e0 : I1 99 j = dvD (ds A h j) := k1 j hj
    rw [x267_9, mxN]
    by_cases c : ds A h j < 8
    · rw [dvD_t c] at e0
      have c7 := tb_iff.mpr (ds_7.mp c)
      by_cases c2 : mxN A h j < ds A h j
      · have c2' : ¬ ds A h j ≤ mxN A h j := by omega
        rw [if_pos ⟨c2, c⟩]
        simp (disch := first | assumption | omega | decide) only [x267_0, x267_1, x267_2, x267_3, x267_4, x267_5, x267_6, x267_7, x267_8, x267_10, x267_11, x267_12, x267_13, x267_14, x267_15, x267_16, x267_17, x267_18, x267_19, x267_20, x267_21, x267_22, x267_23, x267_24, x267_25, x267_26, x267_27, x267_28, x267_29, x267_30, ↓reduceIte, Option.toList, List.nil_append, List.cons_append, nI_add, pk_mul, n_and, n_or, n_xor, nI_leI, nI_ltI, nI_eq, n_z, uI_s, uI_n, bI_n0, bI_n1, bT, bF, if_true, if_false, not_true, not_false_eq_true, pk_div, pk_rem, Nat.reduceEqDiff, Nat.reduceLeDiff, Nat.reduceLT, Nat.reduceAdd, Nat.reduceMul, Nat.reduceSub, Nat.not_lt_zero, Nat.zero_le, reduceCtorEq, ite_self, n_rem, and_self, and_true, true_and, and_false, false_and, lj, sp_has, c7, e0, c2']
      · have c2' : ds A h j ≤ mxN A h j := by omega
        rw [if_neg (fun h => c2 h.1)]
        simp (disch := first | assumption | omega | decide) only [x267_0, x267_1, x267_2, x267_3, x267_4, x267_5, x267_6, x267_7, x267_8, x267_10, x267_11, x267_12, x267_13, x267_14, x267_15, x267_16, x267_17, x267_18, x267_19, x267_20, x267_21, x267_22, x267_23, x267_24, x267_25, x267_26, x267_27, x267_28, x267_29, x267_30, ↓reduceIte, Option.toList, List.nil_append, List.cons_append, nI_add, pk_mul, n_and, n_or, n_xor, nI_leI, nI_ltI, nI_eq, n_z, uI_s, uI_n, bI_n0, bI_n1, bT, bF, if_true, if_false, not_true, not_false_eq_true, pk_div, pk_rem, Nat.reduceEqDiff, Nat.reduceLeDiff, Nat.reduceLT, Nat.reduceAdd, Nat.reduceMul, Nat.reduceSub, Nat.not_lt_zero, Nat.zero_le, reduceCtorEq, ite_self, n_rem, and_self, and_true, true_and, and_false, false_and, lj, sp_has, c7, e0, c2']
    · have c7 : ¬ bl A 255 h 7 / 2 ^ j % 2 = 1 := fun e => c (ds_7.mpr (tb_iff.mp e))
      rw [if_neg (fun h => c h.2)]
      simp (disch := first | assumption | omega | decide) only [x267_0, x267_1, x267_2, x267_3, x267_4, x267_5, x267_6, x267_7, x267_8, x267_10, x267_11, x267_12, x267_13, x267_14, x267_15, x267_16, x267_17, x267_18, x267_19, x267_20, x267_21, x267_22, x267_23, x267_24, x267_25, x267_26, x267_27, x267_28, x267_29, x267_30, ↓reduceIte, Option.toList, List.nil_append, List.cons_append, nI_add, pk_mul, n_and, n_or, n_xor, nI_leI, nI_ltI, nI_eq, n_z, uI_s, uI_n, bI_n0, bI_n1, bT, bF, if_true, if_false, not_true, not_false_eq_true, pk_div, pk_rem, Nat.reduceEqDiff, Nat.reduceLeDiff, Nat.reduceLT, Nat.reduceAdd, Nat.reduceMul, Nat.reduceSub, Nat.not_lt_zero, Nat.zero_le, reduceCtorEq, ite_self, n_rem, and_self, and_true, true_and, and_false, false_and, lj, sp_has, c7])
  simp (disch := first | assumption | omega | decide) only [x267_0, x267_1, x267_2, x267_3, x267_4, x267_5, x267_6, x267_7, x267_8, ↓reduceIte, Option.toList, List.nil_append, List.cons_append, nI_add, pk_mul, n_and, n_or, n_xor, nI_leI, nI_ltI, nI_eq, n_z, uI_s, uI_n, bI_n0, bI_n1, bT, bF, if_true, if_false, not_true, not_false_eq_true, pk_div, pk_rem, Nat.reduceEqDiff, Nat.reduceLeDiff, Nat.reduceLT, Nat.reduceAdd, Nat.reduceMul, Nat.reduceSub, Nat.not_lt_zero, Nat.zero_le, reduceCtorEq, ite_self, n_rem, and_self, and_true, true_and, and_false, false_and, q1]
  refine Eq.trans hi ?_
  show Rn _ _ _ _ _ _ _ _ = _
  rw [x267_9]
  simp (disch := first | assumption | omega | decide) only [x267_10, x267_11, x267_29, x267_30, ↓reduceIte, Option.toList, List.nil_append, List.cons_append, nI_add, pk_mul, n_and, n_or, n_xor, nI_leI, nI_ltI, nI_eq, n_z, uI_s, uI_n, bI_n0, bI_n1, bT, bF, if_true, if_false, not_true, not_false_eq_true, pk_div, pk_rem, Nat.reduceEqDiff, Nat.reduceLeDiff, Nat.reduceLT, Nat.reduceAdd, Nat.reduceMul, Nat.reduceSub, Nat.not_lt_zero, Nat.zero_le, reduceCtorEq, ite_self, n_rem, and_self, and_true, true_and, and_false, false_and, Nat.le_refl]
  rfl
theorem sp_allM {I : Nat → Nat → Int32} {J : Nat → Nat → Int64} {T : Option Nat} {A : Nat → Nat} (w : Wf A) (mA : AtM I 90 A) : ∃ I', (∀ c k, c ≠ 99 → I' c k = I c k) ∧ ∀ Q, Rn sc (d + 2) 269 0 [some (.ref 89)] [] (K0, I, J, R1 T) Q = Q (some (.int (bI (bl A 255 0 7 = 255)))) (K0, I', J, R1 T) := by
  obtain ⟨I1, k1, f1, q1⟩ := sp_lay (sc := sc) (d := d) (J := J) (T := T) (a := 0) (m := 255) (by decide) (by decide) w mA
  refine ⟨I1, f1, fun Q => ?_⟩
  have lb := bl_lt (A := A) (m := 255) (a := 0) (by decide) (by decide) 7
  by_cases c : bl A 255 0 7 = 255
  · rw [bI_t c]
    simp (disch := first | assumption | omega | decide) only [x269_0, x269_1, x269_2, x269_3, x269_4, x269_5, x269_6, x269_7, x269_8, x269_9, ↓reduceIte, Option.toList, List.nil_append, List.cons_append, nI_add, pk_mul, n_and, n_or, n_xor, nI_leI, nI_ltI, nI_eq, n_z, uI_s, uI_n, bI_n0, bI_n1, bT, bF, if_true, if_false, not_true, not_false_eq_true, pk_div, pk_rem, Nat.reduceEqDiff, Nat.reduceLeDiff, Nat.reduceLT, Nat.reduceAdd, Nat.reduceMul, Nat.reduceSub, Nat.not_lt_zero, Nat.zero_le, reduceCtorEq, ite_self, n_rem, and_self, and_true, true_and, and_false, false_and, q1, c]
  · rw [bI_f c]
    simp (disch := first | assumption | omega | decide) only [x269_0, x269_1, x269_2, x269_3, x269_4, x269_5, x269_6, x269_7, x269_8, x269_9, ↓reduceIte, Option.toList, List.nil_append, List.cons_append, nI_add, pk_mul, n_and, n_or, n_xor, nI_leI, nI_ltI, nI_eq, n_z, uI_s, uI_n, bI_n0, bI_n1, bT, bF, if_true, if_false, not_true, not_false_eq_true, pk_div, pk_rem, Nat.reduceEqDiff, Nat.reduceLeDiff, Nat.reduceLT, Nat.reduceAdd, Nat.reduceMul, Nat.reduceSub, Nat.not_lt_zero, Nat.zero_le, reduceCtorEq, ite_self, n_rem, and_self, and_true, true_and, and_false, false_and, q1, c]
theorem jt_far {x y : Int32} : Jt TX sc (d + 3) 132 265 [some (.ref 0), some (.int x), some (.int y)] [some (.ref 89), some (.int x), some (.int y)] := by
  intro A B M w _
  have w' := w
  obtain ⟨wA, wB, wt⟩ := w
  by_cases hx : inR x 8
  · obtain ⟨a, ha, rfl⟩ := hx
    by_cases hy : inR y 8
    · obtain ⟨b, hb, rfl⟩ := hy
      refine ⟨dvD (ds A a b), A, B, w', Nat.le_refl _, ?_, ?_⟩
      · intro I J T cI _
        obtain ⟨I1, k1, f1, q1⟩ := sp_measure (sc := sc) (d := d + 1) (J := J) (T := T) (u1 := none) (u2 := none) (u3 := none) (u4 := none) (u5 := none) wA (BsC_of cI)
        refine ⟨I1, fun c k hc => f1 c k (by omega), CI_c w' cI (fun c k hc => f1 c k (by omega)), fun Q => ?_⟩
        simp (disch := first | assumption | omega | decide) only [x132_0, x132_1, x132_2, x132_3, x132_4, x132_5, x132_6, x132_7, x132_8, x132_9, x132_10, x132_11, x132_12, x132_13, x132_14, x132_15, x132_16, ↓reduceIte, Option.toList, List.nil_append, List.cons_append, nI_add, pk_mul, n_and, n_or, n_xor, nI_leI, nI_ltI, nI_eq, n_z, uI_s, uI_n, bI_n0, bI_n1, bT, bF, if_true, if_false, not_true, not_false_eq_true, pk_div, pk_rem, Nat.reduceEqDiff, Nat.reduceLeDiff, Nat.reduceLT, Nat.reduceAdd, Nat.reduceMul, Nat.reduceSub, Nat.not_lt_zero, Nat.zero_le, reduceCtorEq, ite_self, n_rem, and_self, and_true, true_and, and_false, false_and, sp_houC_t, q1, sp_dist ha hb k1]
      · intro I J T mI _
        obtain ⟨I1, k1, f1, q1⟩ := sp_lay (sc := sc) (d := d + 1) (J := J) (T := T) ha (show 255 < 256 by decide) wA mI.1
        have lb := bl_lt (A := A) (m := 255) ha (by decide) 7
        have e0 : I1 99 b = dvD (ds A a b) := k1 b hb
        refine ⟨I1, J, ⟨fun c k hc => f1 c k (by omega), fun k hk => f1 _ _ (by omega)⟩, MI_c mI (fun c k hc => f1 c k (by omega)) (f1 _ _ (by omega)), fun Q => ?_⟩
        simp (disch := first | assumption | omega | decide) only [x265_0, x265_1, x265_2, x265_3, x265_4, x265_5, x265_6, x265_7, x265_8, x265_9, x265_10, x265_11, x265_12, x265_13, x265_14, x265_15, x265_16, x265_17, ↓reduceIte, Option.toList, List.nil_append, List.cons_append, nI_add, pk_mul, n_and, n_or, n_xor, nI_leI, nI_ltI, nI_eq, n_z, uI_s, uI_n, bI_n0, bI_n1, bT, bF, if_true, if_false, not_true, not_false_eq_true, pk_div, pk_rem, Nat.reduceEqDiff, Nat.reduceLeDiff, Nat.reduceLT, Nat.reduceAdd, Nat.reduceMul, Nat.reduceSub, Nat.not_lt_zero, Nat.zero_le, reduceCtorEq, ite_self, n_rem, and_self, and_true, true_and, and_false, false_and, sp_houM_t, q1, bl_ne, e0]
    · refine jtR w' (-1) ?_ ?_ <;> intro I J T Q hI
      · simp (disch := first | assumption | omega | decide) only [x132_0, x132_1, x132_2, x132_3, x132_4, x132_5, x132_6, x132_7, x132_8, x132_9, x132_10, x132_11, x132_12, x132_13, x132_14, x132_15, x132_16, ↓reduceIte, Option.toList, List.nil_append, List.cons_append, nI_add, pk_mul, n_and, n_or, n_xor, nI_leI, nI_ltI, nI_eq, n_z, uI_s, uI_n, bI_n0, bI_n1, bT, bF, if_true, if_false, not_true, not_false_eq_true, pk_div, pk_rem, Nat.reduceEqDiff, Nat.reduceLeDiff, Nat.reduceLT, Nat.reduceAdd, Nat.reduceMul, Nat.reduceSub, Nat.not_lt_zero, Nat.zero_le, reduceCtorEq, ite_self, n_rem, and_self, and_true, true_and, and_false, false_and, sp_houC_t, sp_houC_f hy]
      · simp (disch := first | assumption | omega | decide) only [x265_0, x265_1, x265_2, x265_3, x265_4, x265_5, x265_6, x265_7, x265_8, x265_9, x265_10, x265_11, x265_12, x265_13, x265_14, x265_15, x265_16, x265_17, ↓reduceIte, Option.toList, List.nil_append, List.cons_append, nI_add, pk_mul, n_and, n_or, n_xor, nI_leI, nI_ltI, nI_eq, n_z, uI_s, uI_n, bI_n0, bI_n1, bT, bF, if_true, if_false, not_true, not_false_eq_true, pk_div, pk_rem, Nat.reduceEqDiff, Nat.reduceLeDiff, Nat.reduceLT, Nat.reduceAdd, Nat.reduceMul, Nat.reduceSub, Nat.not_lt_zero, Nat.zero_le, reduceCtorEq, ite_self, n_rem, and_self, and_true, true_and, and_false, false_and, sp_houM_t, sp_houM_f hy]
  · refine jtR w' (-1) ?_ ?_ <;> intro I J T Q hI
    · simp (disch := first | assumption | omega | decide) only [x132_0, x132_1, x132_2, x132_3, x132_4, x132_5, x132_6, x132_7, x132_8, x132_9, x132_10, x132_11, x132_12, x132_13, x132_14, x132_15, x132_16, ↓reduceIte, Option.toList, List.nil_append, List.cons_append, nI_add, pk_mul, n_and, n_or, n_xor, nI_leI, nI_ltI, nI_eq, n_z, uI_s, uI_n, bI_n0, bI_n1, bT, bF, if_true, if_false, not_true, not_false_eq_true, pk_div, pk_rem, Nat.reduceEqDiff, Nat.reduceLeDiff, Nat.reduceLT, Nat.reduceAdd, Nat.reduceMul, Nat.reduceSub, Nat.not_lt_zero, Nat.zero_le, reduceCtorEq, ite_self, n_rem, and_self, and_true, true_and, and_false, false_and, sp_houC_f hx]
    · simp (disch := first | assumption | omega | decide) only [x265_0, x265_1, x265_2, x265_3, x265_4, x265_5, x265_6, x265_7, x265_8, x265_9, x265_10, x265_11, x265_12, x265_13, x265_14, x265_15, x265_16, x265_17, ↓reduceIte, Option.toList, List.nil_append, List.cons_append, nI_add, pk_mul, n_and, n_or, n_xor, nI_leI, nI_ltI, nI_eq, n_z, uI_s, uI_n, bI_n0, bI_n1, bT, bF, if_true, if_false, not_true, not_false_eq_true, pk_div, pk_rem, Nat.reduceEqDiff, Nat.reduceLeDiff, Nat.reduceLT, Nat.reduceAdd, Nat.reduceMul, Nat.reduceSub, Nat.not_lt_zero, Nat.zero_le, reduceCtorEq, ite_self, n_rem, and_self, and_true, true_and, and_false, false_and, sp_houM_f hx]
theorem jt_out {x : Int32} : Jt TX sc (d + 3) 134 268 [some (.ref 0), some (.int x)] [some (.ref 89), some (.int x)] := by
  intro A B M w _
  have w' := w
  obtain ⟨wA, wB, wt⟩ := w
  by_cases hx : inR x 8
  · obtain ⟨a, ha, rfl⟩ := hx
    refine ⟨nI (mx A a), A, B, w', Nat.le_refl _, ?_, ?_⟩
    · intro I J T cI _
      obtain ⟨I1, k1, f1, q1⟩ := sp_measure (sc := sc) (d := d + 1) (J := J) (T := T) (u1 := none) (u2 := none) (u3 := none) (u4 := none) (u5 := none) wA (BsC_of cI)
      refine ⟨I1, fun c k hc => f1 c k (by omega), CI_c w' cI (fun c k hc => f1 c k (by omega)), fun Q => ?_⟩
      simp (disch := first | assumption | omega | decide) only [x134_0, x134_1, x134_2, x134_3, x134_4, x134_5, x134_6, x134_7, x134_8, x134_9, x134_10, x134_11, x134_12, ↓reduceIte, Option.toList, List.nil_append, List.cons_append, nI_add, pk_mul, n_and, n_or, n_xor, nI_leI, nI_ltI, nI_eq, n_z, uI_s, uI_n, bI_n0, bI_n1, bT, bF, if_true, if_false, not_true, not_false_eq_true, pk_div, pk_rem, Nat.reduceEqDiff, Nat.reduceLeDiff, Nat.reduceLT, Nat.reduceAdd, Nat.reduceMul, Nat.reduceSub, Nat.not_lt_zero, Nat.zero_le, reduceCtorEq, ite_self, n_rem, and_self, and_true, true_and, and_false, false_and, sp_houC_t, q1, sp_farC ha k1]
    · intro I J T mI _
      obtain ⟨I1, f1, q1⟩ := sp_outM (sc := sc) (d := d) (J := J) (T := T) ha wA mI.1
      refine ⟨I1, J, ⟨fun c k hc => f1 c k (by omega), fun k hk => f1 _ _ (by omega)⟩, MI_c mI (fun c k hc => f1 c k (by omega)) (f1 _ _ (by omega)), fun Q => ?_⟩
      simp (disch := first | assumption | omega | decide) only [x268_0, x268_1, x268_2, x268_3, x268_4, x268_5, x268_6, x268_7, x268_8, ↓reduceIte, Option.toList, List.nil_append, List.cons_append, nI_add, pk_mul, n_and, n_or, n_xor, nI_leI, nI_ltI, nI_eq, n_z, uI_s, uI_n, bI_n0, bI_n1, bT, bF, if_true, if_false, not_true, not_false_eq_true, pk_div, pk_rem, Nat.reduceEqDiff, Nat.reduceLeDiff, Nat.reduceLT, Nat.reduceAdd, Nat.reduceMul, Nat.reduceSub, Nat.not_lt_zero, Nat.zero_le, reduceCtorEq, ite_self, n_rem, and_self, and_true, true_and, and_false, false_and, sp_houM_t, q1]
  · refine jtR w' (-1) ?_ ?_ <;> intro I J T Q hI
    · simp (disch := first | assumption | omega | decide) only [x134_0, x134_1, x134_2, x134_3, x134_4, x134_5, x134_6, x134_7, x134_8, x134_9, x134_10, x134_11, x134_12, ↓reduceIte, Option.toList, List.nil_append, List.cons_append, nI_add, pk_mul, n_and, n_or, n_xor, nI_leI, nI_ltI, nI_eq, n_z, uI_s, uI_n, bI_n0, bI_n1, bT, bF, if_true, if_false, not_true, not_false_eq_true, pk_div, pk_rem, Nat.reduceEqDiff, Nat.reduceLeDiff, Nat.reduceLT, Nat.reduceAdd, Nat.reduceMul, Nat.reduceSub, Nat.not_lt_zero, Nat.zero_le, reduceCtorEq, ite_self, n_rem, and_self, and_true, true_and, and_false, false_and, sp_houC_f hx]
    · simp (disch := first | assumption | omega | decide) only [x268_0, x268_1, x268_2, x268_3, x268_4, x268_5, x268_6, x268_7, x268_8, ↓reduceIte, Option.toList, List.nil_append, List.cons_append, nI_add, pk_mul, n_and, n_or, n_xor, nI_leI, nI_ltI, nI_eq, n_z, uI_s, uI_n, bI_n0, bI_n1, bT, bF, if_true, if_false, not_true, not_false_eq_true, pk_div, pk_rem, Nat.reduceEqDiff, Nat.reduceLeDiff, Nat.reduceLT, Nat.reduceAdd, Nat.reduceMul, Nat.reduceSub, Nat.not_lt_zero, Nat.zero_le, reduceCtorEq, ite_self, n_rem, and_self, and_true, true_and, and_false, false_and, sp_houM_f hx]
theorem jt_centre {z : Nat} (hz : z < 2) : Jt TX sc (d + 3) 135 270 [some (.ref 0), some (.int (nI z)), none, none] [some (.ref 89), some (.int (nI z)), none, none] := by
  intro A B M w _
  have w' := w
  obtain ⟨wA, wB, wt⟩ := w
  have hz' : z = 0 ∨ z = 1 := by omega
  by_cases c : bl A 255 0 7 = 255
  · refine ⟨if z = 0 then nI (cbN A 7) else nI (mx A (cbN A 7)), A, B, w', Nat.le_refl _, ?_, ?_⟩
    · intro I J T cI _
      obtain ⟨I1, k1, f1, q1⟩ := sp_measure (sc := sc) (d := d + 1) (J := J) (T := T) (u1 := none) (u2 := none) (u3 := none) (u4 := none) (u5 := none) wA (BsC_of cI)
      have hw := fun Q => sp_wholeC (Q := Q) (sc := sc) (d := d) (J := J) (T := T) (BsC_of cI)
      refine ⟨I1, fun c k hc => f1 c k (by omega), CI_c w' cI (fun c k hc => f1 c k (by omega)), fun Q => ?_⟩
      have fc := fun Q h hh => sp_farC (Q := Q) (sc := sc) (d := d + 1) (J := J) (T := T) (h := h) (u2 := none) (u3 := none) hh k1
      have hi := iter0 (fun j => Rn sc (d + 3) 135 13 [some (.ref 0), some (.int (nI z)), some (.int (nI (cbN A j))), some (.int (nI (j + 1)))] [] (K0, I1, J, R1 T) Q) 7 (by
        intro j hj
        show Rn _ _ _ _ _ _ _ _ = Rn _ _ _ _ _ _ _ _
        have lj : ¬ 8 ≤ j + 1 := by omega
        have lc := cb_le (A := A) j
        have l1 := mx_le (A := A) (h := j + 1) 8
        have l2 := mx_le (A := A) (h := cbN A j) 8
        have g1 := fun Q => fc Q (j + 1) (by omega)
        have g2 := fun Q => fc Q (cbN A j) (by omega)
        rw [x135_13, cbN]
        unfold mx at g1 g2 ⊢
        by_cases c2 : mxN A (j + 1) 8 < mxN A (cbN A j) 8
        · have c2' : ¬ mxN A (cbN A j) 8 ≤ mxN A (j + 1) 8 := by omega
          rw [if_pos c2]
          simp (disch := first | assumption | omega | decide) only [x135_0, x135_1, x135_2, x135_3, x135_4, x135_5, x135_6, x135_7, x135_8, x135_9, x135_10, x135_11, x135_12, x135_14, x135_15, x135_16, x135_17, x135_18, x135_19, x135_20, x135_21, x135_22, x135_23, x135_24, x135_25, x135_26, x135_27, x135_28, x135_29, x135_30, x135_31, x135_32, x135_33, x135_34, x135_35, x135_36, x135_37, ↓reduceIte, Option.toList, List.nil_append, List.cons_append, nI_add, pk_mul, n_and, n_or, n_xor, nI_leI, nI_ltI, nI_eq, n_z, uI_s, uI_n, bI_n0, bI_n1, bT, bF, if_true, if_false, not_true, not_false_eq_true, pk_div, pk_rem, Nat.reduceEqDiff, Nat.reduceLeDiff, Nat.reduceLT, Nat.reduceAdd, Nat.reduceMul, Nat.reduceSub, Nat.not_lt_zero, Nat.zero_le, reduceCtorEq, ite_self, n_rem, and_self, and_true, true_and, and_false, false_and, lj, g1, g2, c2']
        · have c2' : mxN A (cbN A j) 8 ≤ mxN A (j + 1) 8 := by omega
          rw [if_neg c2]
          simp (disch := first | assumption | omega | decide) only [x135_0, x135_1, x135_2, x135_3, x135_4, x135_5, x135_6, x135_7, x135_8, x135_9, x135_10, x135_11, x135_12, x135_14, x135_15, x135_16, x135_17, x135_18, x135_19, x135_20, x135_21, x135_22, x135_23, x135_24, x135_25, x135_26, x135_27, x135_28, x135_29, x135_30, x135_31, x135_32, x135_33, x135_34, x135_35, x135_36, x135_37, ↓reduceIte, Option.toList, List.nil_append, List.cons_append, nI_add, pk_mul, n_and, n_or, n_xor, nI_leI, nI_ltI, nI_eq, n_z, uI_s, uI_n, bI_n0, bI_n1, bT, bF, if_true, if_false, not_true, not_false_eq_true, pk_div, pk_rem, Nat.reduceEqDiff, Nat.reduceLeDiff, Nat.reduceLT, Nat.reduceAdd, Nat.reduceMul, Nat.reduceSub, Nat.not_lt_zero, Nat.zero_le, reduceCtorEq, ite_self, n_rem, and_self, and_true, true_and, and_false, false_and, lj, g1, g2, c2'])
      simp (disch := first | assumption | omega | decide) only [x135_0, x135_1, x135_2, x135_3, x135_4, x135_5, x135_6, x135_7, x135_8, x135_9, x135_10, x135_11, x135_12, ↓reduceIte, Option.toList, List.nil_append, List.cons_append, nI_add, pk_mul, n_and, n_or, n_xor, nI_leI, nI_ltI, nI_eq, n_z, uI_s, uI_n, bI_n0, bI_n1, bT, bF, if_true, if_false, not_true, not_false_eq_true, pk_div, pk_rem, Nat.reduceEqDiff, Nat.reduceLeDiff, Nat.reduceLT, Nat.reduceAdd, Nat.reduceMul, Nat.reduceSub, Nat.not_lt_zero, Nat.zero_le, reduceCtorEq, ite_self, n_rem, and_self, and_true, true_and, and_false, false_and, hw, c, q1]
      refine Eq.trans hi ?_
      show Rn _ _ _ _ _ _ _ _ = _
      have lc := cb_le (A := A) 7
      have g2 := fun Q => fc Q (cbN A 7) (by omega)
      rw [x135_13]
      rcases hz' with rfl | rfl
      · rw [if_pos rfl]
        simp (disch := first | assumption | omega | decide) only [x135_14, x135_15, x135_29, x135_30, x135_31, x135_32, x135_33, x135_34, x135_35, x135_36, x135_37, ↓reduceIte, Option.toList, List.nil_append, List.cons_append, nI_add, pk_mul, n_and, n_or, n_xor, nI_leI, nI_ltI, nI_eq, n_z, uI_s, uI_n, bI_n0, bI_n1, bT, bF, if_true, if_false, not_true, not_false_eq_true, pk_div, pk_rem, Nat.reduceEqDiff, Nat.reduceLeDiff, Nat.reduceLT, Nat.reduceAdd, Nat.reduceMul, Nat.reduceSub, Nat.not_lt_zero, Nat.zero_le, reduceCtorEq, ite_self, n_rem, and_self, and_true, true_and, and_false, false_and, Nat.le_refl]
      · rw [if_neg (by decide)]
        simp (disch := first | assumption | omega | decide) only [x135_14, x135_15, x135_29, x135_30, x135_31, x135_32, x135_33, x135_34, x135_35, x135_36, x135_37, ↓reduceIte, Option.toList, List.nil_append, List.cons_append, nI_add, pk_mul, n_and, n_or, n_xor, nI_leI, nI_ltI, nI_eq, n_z, uI_s, uI_n, bI_n0, bI_n1, bT, bF, if_true, if_false, not_true, not_false_eq_true, pk_div, pk_rem, Nat.reduceEqDiff, Nat.reduceLeDiff, Nat.reduceLT, Nat.reduceAdd, Nat.reduceMul, Nat.reduceSub, Nat.not_lt_zero, Nat.zero_le, reduceCtorEq, ite_self, n_rem, and_self, and_true, true_and, and_false, false_and, Nat.le_refl, g2]
    · intro I J T mI _
      obtain ⟨I0, f0, q0⟩ := sp_allM (sc := sc) (d := d) (J := J) (T := T) wA mI.1
      obtain ⟨I1, f1, h3⟩ := iterE (fun (_ : Nat) I' => ∀ c k, c ≠ 99 → I' c k = I c k) (fun j I' => fun Q => Rn sc (d + 3) 270 9 [some (.ref 89), some (.int (nI z)), some (.int (nI (cbN A j))), some (.int (nI (j + 1)))] [] (K0, I', J, R1 T) Q) 7 (by
        rintro j I1 hj f1
        have lj : ¬ 8 ≤ j + 1 := by omega
        have lc := cb_le (A := A) j
        have l1 := mx_le (A := A) (h := j + 1) 8
        have l2 := mx_le (A := A) (h := cbN A j) 8
        obtain ⟨I2, f2, q2⟩ := sp_outM (sc := sc) (d := d) (J := J) (T := T) (h := j + 1) (by omega) wA (AtM_c mI.1 (fun k => f1 _ _ (by omega)))
        obtain ⟨I3, f3, q3⟩ := sp_outM (sc := sc) (d := d) (J := J) (T := T) (h := cbN A j) (by omega) wA (AtM_c mI.1 (fun k => (f2 _ _ (by omega)).trans (f1 _ _ (by omega))))
        refine ⟨I3, fun c k hc => (f3 c k hc).trans ((f2 c k hc).trans (f1 c k hc)), funext fun Q => ?_⟩
        show Rn _ _ _ _ _ _ _ _ = Rn _ _ _ _ _ _ _ _
        rw [x270_9, cbN]
        unfold mx at q2 q3 ⊢
        by_cases c2 : mxN A (j + 1) 8 < mxN A (cbN A j) 8
        · have c2' : ¬ mxN A (cbN A j) 8 ≤ mxN A (j + 1) 8 := by omega
          rw [if_pos c2]
          simp (disch := first | assumption | omega | decide) only [x270_0, x270_1, x270_2, x270_3, x270_4, x270_5, x270_6, x270_7, x270_8, x270_10, x270_11, x270_12, x270_13, x270_14, x270_15, x270_16, x270_17, x270_18, x270_19, x270_20, x270_21, x270_22, x270_23, x270_24, x270_25, x270_26, x270_27, x270_28, x270_29, x270_30, ↓reduceIte, Option.toList, List.nil_append, List.cons_append, nI_add, pk_mul, n_and, n_or, n_xor, nI_leI, nI_ltI, nI_eq, n_z, uI_s, uI_n, bI_n0, bI_n1, bT, bF, if_true, if_false, not_true, not_false_eq_true, pk_div, pk_rem, Nat.reduceEqDiff, Nat.reduceLeDiff, Nat.reduceLT, Nat.reduceAdd, Nat.reduceMul, Nat.reduceSub, Nat.not_lt_zero, Nat.zero_le, reduceCtorEq, ite_self, n_rem, and_self, and_true, true_and, and_false, false_and, lj, q2, q3, c2']
        · have c2' : mxN A (cbN A j) 8 ≤ mxN A (j + 1) 8 := by omega
          rw [if_neg c2]
          simp (disch := first | assumption | omega | decide) only [x270_0, x270_1, x270_2, x270_3, x270_4, x270_5, x270_6, x270_7, x270_8, x270_10, x270_11, x270_12, x270_13, x270_14, x270_15, x270_16, x270_17, x270_18, x270_19, x270_20, x270_21, x270_22, x270_23, x270_24, x270_25, x270_26, x270_27, x270_28, x270_29, x270_30, ↓reduceIte, Option.toList, List.nil_append, List.cons_append, nI_add, pk_mul, n_and, n_or, n_xor, nI_leI, nI_ltI, nI_eq, n_z, uI_s, uI_n, bI_n0, bI_n1, bT, bF, if_true, if_false, not_true, not_false_eq_true, pk_div, pk_rem, Nat.reduceEqDiff, Nat.reduceLeDiff, Nat.reduceLT, Nat.reduceAdd, Nat.reduceMul, Nat.reduceSub, Nat.not_lt_zero, Nat.zero_le, reduceCtorEq, ite_self, n_rem, and_self, and_true, true_and, and_false, false_and, lj, q2, q3, c2']) I0 f0
      have lc := cb_le (A := A) 7
      obtain ⟨I2, f2, q2⟩ := sp_outM (sc := sc) (d := d) (J := J) (T := T) (h := cbN A 7) (by omega) wA (AtM_c mI.1 (fun k => f1 _ _ (by omega)))
      rcases hz' with rfl | rfl
      · refine ⟨I1, J, ⟨fun c k hc => f1 c k (by omega), fun k hk => f1 _ _ (by omega)⟩, MI_c mI (fun c k hc => f1 c k (by omega)) (f1 _ _ (by omega)), fun Q => ?_⟩
        have h3' := congrFun h3 Q
        rw [if_pos rfl]
        simp (disch := first | assumption | omega | decide) only [x270_0, x270_1, x270_2, x270_3, x270_4, x270_5, x270_6, x270_7, x270_8, ↓reduceIte, Option.toList, List.nil_append, List.cons_append, nI_add, pk_mul, n_and, n_or, n_xor, nI_leI, nI_ltI, nI_eq, n_z, uI_s, uI_n, bI_n0, bI_n1, bT, bF, if_true, if_false, not_true, not_false_eq_true, pk_div, pk_rem, Nat.reduceEqDiff, Nat.reduceLeDiff, Nat.reduceLT, Nat.reduceAdd, Nat.reduceMul, Nat.reduceSub, Nat.not_lt_zero, Nat.zero_le, reduceCtorEq, ite_self, n_rem, and_self, and_true, true_and, and_false, false_and, q0, c]
        refine Eq.trans h3' ?_
        show Rn _ _ _ _ _ _ _ _ = _
        rw [x270_9]
        simp (disch := first | assumption | omega | decide) only [x270_10, x270_11, x270_23, x270_24, x270_25, x270_26, x270_27, x270_28, x270_29, x270_30, ↓reduceIte, Option.toList, List.nil_append, List.cons_append, nI_add, pk_mul, n_and, n_or, n_xor, nI_leI, nI_ltI, nI_eq, n_z, uI_s, uI_n, bI_n0, bI_n1, bT, bF, if_true, if_false, not_true, not_false_eq_true, pk_div, pk_rem, Nat.reduceEqDiff, Nat.reduceLeDiff, Nat.reduceLT, Nat.reduceAdd, Nat.reduceMul, Nat.reduceSub, Nat.not_lt_zero, Nat.zero_le, reduceCtorEq, ite_self, n_rem, and_self, and_true, true_and, and_false, false_and, Nat.le_refl]
      · refine ⟨I2, J, ⟨fun c k hc => (f2 c k (by omega)).trans (f1 c k (by omega)), fun k hk => (f2 _ _ (by omega)).trans (f1 _ _ (by omega))⟩, MI_c mI (fun c k hc => (f2 c k (by omega)).trans (f1 c k (by omega))) ((f2 _ _ (by omega)).trans (f1 _ _ (by omega))), fun Q => ?_⟩
        have h3' := congrFun h3 Q
        rw [if_neg (by decide)]
        simp (disch := first | assumption | omega | decide) only [x270_0, x270_1, x270_2, x270_3, x270_4, x270_5, x270_6, x270_7, x270_8, ↓reduceIte, Option.toList, List.nil_append, List.cons_append, nI_add, pk_mul, n_and, n_or, n_xor, nI_leI, nI_ltI, nI_eq, n_z, uI_s, uI_n, bI_n0, bI_n1, bT, bF, if_true, if_false, not_true, not_false_eq_true, pk_div, pk_rem, Nat.reduceEqDiff, Nat.reduceLeDiff, Nat.reduceLT, Nat.reduceAdd, Nat.reduceMul, Nat.reduceSub, Nat.not_lt_zero, Nat.zero_le, reduceCtorEq, ite_self, n_rem, and_self, and_true, true_and, and_false, false_and, q0, c]
        refine Eq.trans h3' ?_
        show Rn _ _ _ _ _ _ _ _ = _
        rw [x270_9]
        simp (disch := first | assumption | omega | decide) only [x270_10, x270_11, x270_23, x270_24, x270_25, x270_26, x270_27, x270_28, x270_29, x270_30, ↓reduceIte, Option.toList, List.nil_append, List.cons_append, nI_add, pk_mul, n_and, n_or, n_xor, nI_leI, nI_ltI, nI_eq, n_z, uI_s, uI_n, bI_n0, bI_n1, bT, bF, if_true, if_false, not_true, not_false_eq_true, pk_div, pk_rem, Nat.reduceEqDiff, Nat.reduceLeDiff, Nat.reduceLT, Nat.reduceAdd, Nat.reduceMul, Nat.reduceSub, Nat.not_lt_zero, Nat.zero_le, reduceCtorEq, ite_self, n_rem, and_self, and_true, true_and, and_false, false_and, Nat.le_refl, q2]
  · refine ⟨-1, A, B, w', Nat.le_refl _, ?_, ?_⟩
    · intro I J T cI _
      have hw := fun Q => sp_wholeC (Q := Q) (sc := sc) (d := d) (J := J) (T := T) (BsC_of cI)
      refine ⟨I, fun _ _ _ => rfl, cI, fun Q => ?_⟩
      simp (disch := first | assumption | omega | decide) only [x135_0, x135_1, x135_2, x135_3, x135_4, x135_5, x135_6, x135_7, x135_8, x135_9, x135_10, x135_11, x135_12, ↓reduceIte, Option.toList, List.nil_append, List.cons_append, nI_add, pk_mul, n_and, n_or, n_xor, nI_leI, nI_ltI, nI_eq, n_z, uI_s, uI_n, bI_n0, bI_n1, bT, bF, if_true, if_false, not_true, not_false_eq_true, pk_div, pk_rem, Nat.reduceEqDiff, Nat.reduceLeDiff, Nat.reduceLT, Nat.reduceAdd, Nat.reduceMul, Nat.reduceSub, Nat.not_lt_zero, Nat.zero_le, reduceCtorEq, ite_self, n_rem, and_self, and_true, true_and, and_false, false_and, hw, c]
    · intro I J T mI _
      obtain ⟨I0, f0, q0⟩ := sp_allM (sc := sc) (d := d) (J := J) (T := T) wA mI.1
      refine ⟨I0, J, ⟨fun c k hc => f0 c k (by omega), fun k hk => f0 _ _ (by omega)⟩, MI_c mI (fun c k hc => f0 c k (by omega)) (f0 _ _ (by omega)), fun Q => ?_⟩
      simp (disch := first | assumption | omega | decide) only [x270_0, x270_1, x270_2, x270_3, x270_4, x270_5, x270_6, x270_7, x270_8, ↓reduceIte, Option.toList, List.nil_append, List.cons_append, nI_add, pk_mul, n_and, n_or, n_xor, nI_leI, nI_ltI, nI_eq, n_z, uI_s, uI_n, bI_n0, bI_n1, bT, bF, if_true, if_false, not_true, not_false_eq_true, pk_div, pk_rem, Nat.reduceEqDiff, Nat.reduceLeDiff, Nat.reduceLT, Nat.reduceAdd, Nat.reduceMul, Nat.reduceSub, Nat.not_lt_zero, Nat.zero_le, reduceCtorEq, ite_self, n_rem, and_self, and_true, true_and, and_false, false_and, q0, c]
theorem jt_wide : Jt TX sc (d + 3) 136 271 [some (.ref 0), none, none] [some (.ref 89), none, none] := by
  intro A B M w _
  have w' := w
  obtain ⟨wA, wB, wt⟩ := w
  by_cases c : bl A 255 0 7 = 255
  · refine ⟨nI (wdN A 8), A, B, w', Nat.le_refl _, ?_, ?_⟩
    · intro I J T cI _
      obtain ⟨I1, k1, f1, q1⟩ := sp_measure (sc := sc) (d := d + 1) (J := J) (T := T) (u1 := none) (u2 := none) (u3 := none) (u4 := none) (u5 := none) wA (BsC_of cI)
      have hw := fun Q => sp_wholeC (Q := Q) (sc := sc) (d := d) (J := J) (T := T) (BsC_of cI)
      refine ⟨I1, fun c k hc => f1 c k (by omega), CI_c w' cI (fun c k hc => f1 c k (by omega)), fun Q => ?_⟩
      have hi := iter0 (fun j => Rn sc (d + 3) 136 13 [some (.ref 0), some (.int (nI (wdN A j))), some (.int (nI j))] [] (K0, I1, J, R1 T) Q) 8 (by
        intro j hj
        show Rn _ _ _ _ _ _ _ _ = Rn _ _ _ _ _ _ _ _
        have lj : ¬ 8 ≤ j := by omega
        have l1 := mx_le (A := A) (h := j) 8
        have l2 := wd_le (A := A) j
        have g1 := fun Q => sp_farC (Q := Q) (sc := sc) (d := d + 1) (J := J) (T := T) (u2 := none) (u3 := none) hj k1
        rw [x136_13, wdN]
        unfold mx at g1 ⊢
        by_cases c2 : wdN A j < mxN A j 8
        · rw [if_pos c2]
          simp (disch := first | assumption | omega | decide) only [x136_0, x136_1, x136_2, x136_3, x136_4, x136_5, x136_6, x136_7, x136_8, x136_9, x136_10, x136_11, x136_12, x136_14, x136_15, x136_16, x136_17, x136_18, x136_19, x136_20, x136_21, x136_22, x136_23, x136_24, x136_25, x136_26, ↓reduceIte, Option.toList, List.nil_append, List.cons_append, nI_add, pk_mul, n_and, n_or, n_xor, nI_leI, nI_ltI, nI_eq, n_z, uI_s, uI_n, bI_n0, bI_n1, bT, bF, if_true, if_false, not_true, not_false_eq_true, pk_div, pk_rem, Nat.reduceEqDiff, Nat.reduceLeDiff, Nat.reduceLT, Nat.reduceAdd, Nat.reduceMul, Nat.reduceSub, Nat.not_lt_zero, Nat.zero_le, reduceCtorEq, ite_self, n_rem, and_self, and_true, true_and, and_false, false_and, lj, g1, c2]
        · rw [if_neg c2]
          simp (disch := first | assumption | omega | decide) only [x136_0, x136_1, x136_2, x136_3, x136_4, x136_5, x136_6, x136_7, x136_8, x136_9, x136_10, x136_11, x136_12, x136_14, x136_15, x136_16, x136_17, x136_18, x136_19, x136_20, x136_21, x136_22, x136_23, x136_24, x136_25, x136_26, ↓reduceIte, Option.toList, List.nil_append, List.cons_append, nI_add, pk_mul, n_and, n_or, n_xor, nI_leI, nI_ltI, nI_eq, n_z, uI_s, uI_n, bI_n0, bI_n1, bT, bF, if_true, if_false, not_true, not_false_eq_true, pk_div, pk_rem, Nat.reduceEqDiff, Nat.reduceLeDiff, Nat.reduceLT, Nat.reduceAdd, Nat.reduceMul, Nat.reduceSub, Nat.not_lt_zero, Nat.zero_le, reduceCtorEq, ite_self, n_rem, and_self, and_true, true_and, and_false, false_and, lj, g1, c2])
      simp (disch := first | assumption | omega | decide) only [x136_0, x136_1, x136_2, x136_3, x136_4, x136_5, x136_6, x136_7, x136_8, x136_9, x136_10, x136_11, x136_12, ↓reduceIte, Option.toList, List.nil_append, List.cons_append, nI_add, pk_mul, n_and, n_or, n_xor, nI_leI, nI_ltI, nI_eq, n_z, uI_s, uI_n, bI_n0, bI_n1, bT, bF, if_true, if_false, not_true, not_false_eq_true, pk_div, pk_rem, Nat.reduceEqDiff, Nat.reduceLeDiff, Nat.reduceLT, Nat.reduceAdd, Nat.reduceMul, Nat.reduceSub, Nat.not_lt_zero, Nat.zero_le, reduceCtorEq, ite_self, n_rem, and_self, and_true, true_and, and_false, false_and, hw, c, q1]
      refine Eq.trans hi ?_
      show Rn _ _ _ _ _ _ _ _ = _
      rw [x136_13]
      simp (disch := first | assumption | omega | decide) only [x136_14, x136_15, x136_25, x136_26, ↓reduceIte, Option.toList, List.nil_append, List.cons_append, nI_add, pk_mul, n_and, n_or, n_xor, nI_leI, nI_ltI, nI_eq, n_z, uI_s, uI_n, bI_n0, bI_n1, bT, bF, if_true, if_false, not_true, not_false_eq_true, pk_div, pk_rem, Nat.reduceEqDiff, Nat.reduceLeDiff, Nat.reduceLT, Nat.reduceAdd, Nat.reduceMul, Nat.reduceSub, Nat.not_lt_zero, Nat.zero_le, reduceCtorEq, ite_self, n_rem, and_self, and_true, true_and, and_false, false_and, Nat.le_refl]
    · intro I J T mI _
      obtain ⟨I0, f0, q0⟩ := sp_allM (sc := sc) (d := d) (J := J) (T := T) wA mI.1
      obtain ⟨I1, f1, h3⟩ := iterE (fun (_ : Nat) I' => ∀ c k, c ≠ 99 → I' c k = I c k) (fun j I' => fun Q => Rn sc (d + 3) 271 9 [some (.ref 89), some (.int (nI (wdN A j))), some (.int (nI j))] [] (K0, I', J, R1 T) Q) 8 (by
        rintro j I1 hj f1
        have lj : ¬ 8 ≤ j := by omega
        have l1 := mx_le (A := A) (h := j) 8
        have l2 := wd_le (A := A) j
        obtain ⟨I2, f2, q2⟩ := sp_outM (sc := sc) (d := d) (J := J) (T := T) hj wA (AtM_c mI.1 (fun k => f1 _ _ (by omega)))
        obtain ⟨I3, f3, q3⟩ := sp_outM (sc := sc) (d := d) (J := J) (T := T) hj wA (AtM_c mI.1 (fun k => (f2 _ _ (by omega)).trans (f1 _ _ (by omega))))
        unfold mx at q2 q3
        by_cases c2 : wdN A j < mxN A j 8
        · have c2' : ¬ mxN A j 8 ≤ wdN A j := by omega
          refine ⟨I3, fun c k hc => (f3 c k hc).trans ((f2 c k hc).trans (f1 c k hc)), funext fun Q => ?_⟩
          show Rn _ _ _ _ _ _ _ _ = Rn _ _ _ _ _ _ _ _
          rw [x271_9, wdN]
          unfold mx
          rw [if_pos c2]
          simp (disch := first | assumption | omega | decide) only [x271_0, x271_1, x271_2, x271_3, x271_4, x271_5, x271_6, x271_7, x271_8, x271_10, x271_11, x271_12, x271_13, x271_14, x271_15, x271_16, x271_17, x271_18, x271_19, x271_20, x271_21, x271_22, x271_23, x271_24, x271_25, x271_26, ↓reduceIte, Option.toList, List.nil_append, List.cons_append, nI_add, pk_mul, n_and, n_or, n_xor, nI_leI, nI_ltI, nI_eq, n_z, uI_s, uI_n, bI_n0, bI_n1, bT, bF, if_true, if_false, not_true, not_false_eq_true, pk_div, pk_rem, Nat.reduceEqDiff, Nat.reduceLeDiff, Nat.reduceLT, Nat.reduceAdd, Nat.reduceMul, Nat.reduceSub, Nat.not_lt_zero, Nat.zero_le, reduceCtorEq, ite_self, n_rem, and_self, and_true, true_and, and_false, false_and, lj, q2, q3, c2']
        · have c2' : mxN A j 8 ≤ wdN A j := by omega
          refine ⟨I2, fun c k hc => (f2 c k hc).trans (f1 c k hc), funext fun Q => ?_⟩
          show Rn _ _ _ _ _ _ _ _ = Rn _ _ _ _ _ _ _ _
          rw [x271_9, wdN]
          unfold mx
          rw [if_neg c2]
          simp (disch := first | assumption | omega | decide) only [x271_0, x271_1, x271_2, x271_3, x271_4, x271_5, x271_6, x271_7, x271_8, x271_10, x271_11, x271_12, x271_13, x271_14, x271_15, x271_16, x271_17, x271_18, x271_19, x271_20, x271_21, x271_22, x271_23, x271_24, x271_25, x271_26, ↓reduceIte, Option.toList, List.nil_append, List.cons_append, nI_add, pk_mul, n_and, n_or, n_xor, nI_leI, nI_ltI, nI_eq, n_z, uI_s, uI_n, bI_n0, bI_n1, bT, bF, if_true, if_false, not_true, not_false_eq_true, pk_div, pk_rem, Nat.reduceEqDiff, Nat.reduceLeDiff, Nat.reduceLT, Nat.reduceAdd, Nat.reduceMul, Nat.reduceSub, Nat.not_lt_zero, Nat.zero_le, reduceCtorEq, ite_self, n_rem, and_self, and_true, true_and, and_false, false_and, lj, q2, c2']) I0 f0
      refine ⟨I1, J, ⟨fun c k hc => f1 c k (by omega), fun k hk => f1 _ _ (by omega)⟩, MI_c mI (fun c k hc => f1 c k (by omega)) (f1 _ _ (by omega)), fun Q => ?_⟩
      have h3' := congrFun h3 Q
      simp (disch := first | assumption | omega | decide) only [x271_0, x271_1, x271_2, x271_3, x271_4, x271_5, x271_6, x271_7, x271_8, ↓reduceIte, Option.toList, List.nil_append, List.cons_append, nI_add, pk_mul, n_and, n_or, n_xor, nI_leI, nI_ltI, nI_eq, n_z, uI_s, uI_n, bI_n0, bI_n1, bT, bF, if_true, if_false, not_true, not_false_eq_true, pk_div, pk_rem, Nat.reduceEqDiff, Nat.reduceLeDiff, Nat.reduceLT, Nat.reduceAdd, Nat.reduceMul, Nat.reduceSub, Nat.not_lt_zero, Nat.zero_le, reduceCtorEq, ite_self, n_rem, and_self, and_true, true_and, and_false, false_and, q0, c]
      refine Eq.trans h3' ?_
      show Rn _ _ _ _ _ _ _ _ = _
      rw [x271_9]
      simp (disch := first | assumption | omega | decide) only [x271_10, x271_11, x271_25, x271_26, ↓reduceIte, Option.toList, List.nil_append, List.cons_append, nI_add, pk_mul, n_and, n_or, n_xor, nI_leI, nI_ltI, nI_eq, n_z, uI_s, uI_n, bI_n0, bI_n1, bT, bF, if_true, if_false, not_true, not_false_eq_true, pk_div, pk_rem, Nat.reduceEqDiff, Nat.reduceLeDiff, Nat.reduceLT, Nat.reduceAdd, Nat.reduceMul, Nat.reduceSub, Nat.not_lt_zero, Nat.zero_le, reduceCtorEq, ite_self, n_rem, and_self, and_true, true_and, and_false, false_and, Nat.le_refl]
  · refine ⟨-1, A, B, w', Nat.le_refl _, ?_, ?_⟩
    · intro I J T cI _
      have hw := fun Q => sp_wholeC (Q := Q) (sc := sc) (d := d) (J := J) (T := T) (BsC_of cI)
      refine ⟨I, fun _ _ _ => rfl, cI, fun Q => ?_⟩
      simp (disch := first | assumption | omega | decide) only [x136_0, x136_1, x136_2, x136_3, x136_4, x136_5, x136_6, x136_7, x136_8, x136_9, x136_10, x136_11, x136_12, ↓reduceIte, Option.toList, List.nil_append, List.cons_append, nI_add, pk_mul, n_and, n_or, n_xor, nI_leI, nI_ltI, nI_eq, n_z, uI_s, uI_n, bI_n0, bI_n1, bT, bF, if_true, if_false, not_true, not_false_eq_true, pk_div, pk_rem, Nat.reduceEqDiff, Nat.reduceLeDiff, Nat.reduceLT, Nat.reduceAdd, Nat.reduceMul, Nat.reduceSub, Nat.not_lt_zero, Nat.zero_le, reduceCtorEq, ite_self, n_rem, and_self, and_true, true_and, and_false, false_and, hw, c]
    · intro I J T mI _
      obtain ⟨I0, f0, q0⟩ := sp_allM (sc := sc) (d := d) (J := J) (T := T) wA mI.1
      refine ⟨I0, J, ⟨fun c k hc => f0 c k (by omega), fun k hk => f0 _ _ (by omega)⟩, MI_c mI (fun c k hc => f0 c k (by omega)) (f0 _ _ (by omega)), fun Q => ?_⟩
      simp (disch := first | assumption | omega | decide) only [x271_0, x271_1, x271_2, x271_3, x271_4, x271_5, x271_6, x271_7, x271_8, ↓reduceIte, Option.toList, List.nil_append, List.cons_append, nI_add, pk_mul, n_and, n_or, n_xor, nI_leI, nI_ltI, nI_eq, n_z, uI_s, uI_n, bI_n0, bI_n1, bT, bF, if_true, if_false, not_true, not_false_eq_true, pk_div, pk_rem, Nat.reduceEqDiff, Nat.reduceLeDiff, Nat.reduceLT, Nat.reduceAdd, Nat.reduceMul, Nat.reduceSub, Nat.not_lt_zero, Nat.zero_le, reduceCtorEq, ite_self, n_rem, and_self, and_true, true_and, and_false, false_and, q0, c]
theorem jt_parts : Jt TX sc (d + 3) 137 272 [some (.ref 0), none, none, none] [some (.ref 89), none, none] := by
  intro A B M w _
  have w' := w
  obtain ⟨wA, wB, wt⟩ := w
  refine ⟨nI (ptN A 8), A, B, w', Nat.le_refl _, ?_, ?_⟩
  · intro I J T cI _
    refine ⟨I, fun _ _ _ => rfl, cI, fun Q => ?_⟩
    have hi := iter0 (fun j => Rn sc (d + 3) 137 6 [some (.ref 0), some (.int (nI (ptN A j))), some (.int (nI (ptS A j))), some (.int (nI j))] [] (K0, I, J, R1 T) Q) 8 (by
      intro j hj
      show Rn _ _ _ _ _ _ _ _ = Rn _ _ _ _ _ _ _ _
      have lj : ¬ 8 ≤ j := by omega
      have ls := ptS_lt (A := A) j (by omega)
      have fl := fun Q => sp_flood (Q := Q) (sc := sc) (d := d + 1) (J := J) (T := T) hj (show 255 < 256 by decide) (BsC_of cI)
      rw [x137_6, ptN, ptS]
      by_cases c : ptS A j / 2 ^ j % 2 = 1
      · rw [if_pos c, if_neg (fun h => (pt_c hj).mp h c)]
        simp (disch := first | assumption | omega | decide) only [x137_0, x137_1, x137_2, x137_3, x137_4, x137_5, x137_7, x137_8, x137_9, x137_10, x137_11, x137_12, x137_13, x137_14, x137_15, x137_16, x137_17, x137_18, x137_19, x137_20, x137_21, x137_22, x137_23, x137_24, x137_25, x137_26, x137_27, ↓reduceIte, Option.toList, List.nil_append, List.cons_append, nI_add, pk_mul, n_and, n_or, n_xor, nI_leI, nI_ltI, nI_eq, n_z, uI_s, uI_n, bI_n0, bI_n1, bT, bF, if_true, if_false, not_true, not_false_eq_true, pk_div, pk_rem, Nat.reduceEqDiff, Nat.reduceLeDiff, Nat.reduceLT, Nat.reduceAdd, Nat.reduceMul, Nat.reduceSub, Nat.not_lt_zero, Nat.zero_le, reduceCtorEq, ite_self, n_rem, and_self, and_true, true_and, and_false, false_and, lj, n_bit, c, Nat.add_zero]
      · have c0 : ptS A j / 2 ^ j % 2 = 0 := by omega
        rw [if_neg c, if_pos ((pt_c hj).mpr c)]
        simp (disch := first | assumption | omega | decide) only [x137_0, x137_1, x137_2, x137_3, x137_4, x137_5, x137_7, x137_8, x137_9, x137_10, x137_11, x137_12, x137_13, x137_14, x137_15, x137_16, x137_17, x137_18, x137_19, x137_20, x137_21, x137_22, x137_23, x137_24, x137_25, x137_26, x137_27, ↓reduceIte, Option.toList, List.nil_append, List.cons_append, nI_add, pk_mul, n_and, n_or, n_xor, nI_leI, nI_ltI, nI_eq, n_z, uI_s, uI_n, bI_n0, bI_n1, bT, bF, if_true, if_false, not_true, not_false_eq_true, pk_div, pk_rem, Nat.reduceEqDiff, Nat.reduceLeDiff, Nat.reduceLT, Nat.reduceAdd, Nat.reduceMul, Nat.reduceSub, Nat.not_lt_zero, Nat.zero_le, reduceCtorEq, ite_self, n_rem, and_self, and_true, true_and, and_false, false_and, lj, n_bit, c0, fl])
    simp (disch := first | assumption | omega | decide) only [x137_0, x137_1, x137_2, x137_3, x137_4, x137_5, ↓reduceIte, Option.toList, List.nil_append, List.cons_append, nI_add, pk_mul, n_and, n_or, n_xor, nI_leI, nI_ltI, nI_eq, n_z, uI_s, uI_n, bI_n0, bI_n1, bT, bF, if_true, if_false, not_true, not_false_eq_true, pk_div, pk_rem, Nat.reduceEqDiff, Nat.reduceLeDiff, Nat.reduceLT, Nat.reduceAdd, Nat.reduceMul, Nat.reduceSub, Nat.not_lt_zero, Nat.zero_le, reduceCtorEq, ite_self, n_rem, and_self, and_true, true_and, and_false, false_and]
    refine Eq.trans hi ?_
    show Rn _ _ _ _ _ _ _ _ = _
    rw [x137_6]
    simp (disch := first | assumption | omega | decide) only [x137_7, x137_8, x137_26, x137_27, ↓reduceIte, Option.toList, List.nil_append, List.cons_append, nI_add, pk_mul, n_and, n_or, n_xor, nI_leI, nI_ltI, nI_eq, n_z, uI_s, uI_n, bI_n0, bI_n1, bT, bF, if_true, if_false, not_true, not_false_eq_true, pk_div, pk_rem, Nat.reduceEqDiff, Nat.reduceLeDiff, Nat.reduceLT, Nat.reduceAdd, Nat.reduceMul, Nat.reduceSub, Nat.not_lt_zero, Nat.zero_le, reduceCtorEq, ite_self, n_rem, and_self, and_true, true_and, and_false, false_and, Nat.le_refl]
  · intro I J T mI _
    obtain ⟨I1, f1, h3⟩ := iterE (fun (_ : Nat) I' => ∀ c k, c ≠ 99 → I' c k = I c k) (fun j I' => fun Q => Rn sc (d + 3) 272 4 [some (.ref 89), some (.int (nI (ptN A j))), some (.int (nI j))] [] (K0, I', J, R1 T) Q) 8 (by
      rintro j I1 hj f1
      have lj : ¬ 8 ≤ j := by omega
      obtain ⟨I2, k2, f2, q2⟩ := sp_lay (sc := sc) (d := d + 1) (J := J) (T := T) hj (show 255 < 256 by decide) wA (AtM_c mI.1 (fun k => f1 _ _ (by omega)))
      have lp := p2_lt hj
      have lp1 : 1 ≤ 2 ^ j := Nat.one_le_two_pow
      have lb := bl_lt (A := A) (m := 255) hj (by decide) 7
      have la : bl A 255 j 7 &&& (2 ^ j - 1) < 2 ^ 31 := Nat.lt_of_le_of_lt Nat.and_le_left (by omega)
      refine ⟨I2, fun c k hc => (f2 c k hc).trans (f1 c k hc), funext fun Q => ?_⟩
      show Rn _ _ _ _ _ _ _ _ = Rn _ _ _ _ _ _ _ _
      rw [x272_4, ptN]
      by_cases c : bl A 255 j 7 &&& (2 ^ j - 1) = 0
      · rw [if_pos c]
        simp (disch := first | assumption | omega | decide) only [x272_0, x272_1, x272_2, x272_3, x272_5, x272_6, x272_7, x272_8, x272_9, x272_10, x272_11, x272_12, x272_13, x272_14, x272_15, x272_16, x272_17, x272_18, x272_19, x272_20, x272_21, x272_22, x272_23, x272_24, x272_25, x272_26, x272_27, ↓reduceIte, Option.toList, List.nil_append, List.cons_append, nI_add, pk_mul, n_and, n_or, n_xor, nI_leI, nI_ltI, nI_eq, n_z, uI_s, uI_n, bI_n0, bI_n1, bT, bF, if_true, if_false, not_true, not_false_eq_true, pk_div, pk_rem, Nat.reduceEqDiff, Nat.reduceLeDiff, Nat.reduceLT, Nat.reduceAdd, Nat.reduceMul, Nat.reduceSub, Nat.not_lt_zero, Nat.zero_le, reduceCtorEq, ite_self, n_rem, and_self, and_true, true_and, and_false, false_and, lj, q2, n_one, n_sub lp1, c]
      · rw [if_neg c]
        simp (disch := first | assumption | omega | decide) only [x272_0, x272_1, x272_2, x272_3, x272_5, x272_6, x272_7, x272_8, x272_9, x272_10, x272_11, x272_12, x272_13, x272_14, x272_15, x272_16, x272_17, x272_18, x272_19, x272_20, x272_21, x272_22, x272_23, x272_24, x272_25, x272_26, x272_27, ↓reduceIte, Option.toList, List.nil_append, List.cons_append, nI_add, pk_mul, n_and, n_or, n_xor, nI_leI, nI_ltI, nI_eq, n_z, uI_s, uI_n, bI_n0, bI_n1, bT, bF, if_true, if_false, not_true, not_false_eq_true, pk_div, pk_rem, Nat.reduceEqDiff, Nat.reduceLeDiff, Nat.reduceLT, Nat.reduceAdd, Nat.reduceMul, Nat.reduceSub, Nat.not_lt_zero, Nat.zero_le, reduceCtorEq, ite_self, n_rem, and_self, and_true, true_and, and_false, false_and, lj, q2, n_one, n_sub lp1, c]) I (fun _ _ _ => rfl)
    refine ⟨I1, J, ⟨fun c k hc => f1 c k (by omega), fun k hk => f1 _ _ (by omega)⟩, MI_c mI (fun c k hc => f1 c k (by omega)) (f1 _ _ (by omega)), fun Q => ?_⟩
    have h3' := congrFun h3 Q
    simp (disch := first | assumption | omega | decide) only [x272_0, x272_1, x272_2, x272_3, ↓reduceIte, Option.toList, List.nil_append, List.cons_append, nI_add, pk_mul, n_and, n_or, n_xor, nI_leI, nI_ltI, nI_eq, n_z, uI_s, uI_n, bI_n0, bI_n1, bT, bF, if_true, if_false, not_true, not_false_eq_true, pk_div, pk_rem, Nat.reduceEqDiff, Nat.reduceLeDiff, Nat.reduceLT, Nat.reduceAdd, Nat.reduceMul, Nat.reduceSub, Nat.not_lt_zero, Nat.zero_le, reduceCtorEq, ite_self, n_rem, and_self, and_true, true_and, and_false, false_and]
    refine Eq.trans h3' ?_
    show Rn _ _ _ _ _ _ _ _ = _
    rw [x272_4]
    simp (disch := first | assumption | omega | decide) only [x272_5, x272_6, x272_26, x272_27, ↓reduceIte, Option.toList, List.nil_append, List.cons_append, nI_add, pk_mul, n_and, n_or, n_xor, nI_leI, nI_ltI, nI_eq, n_z, uI_s, uI_n, bI_n0, bI_n1, bT, bF, if_true, if_false, not_true, not_false_eq_true, pk_div, pk_rem, Nat.reduceEqDiff, Nat.reduceLeDiff, Nat.reduceLT, Nat.reduceAdd, Nat.reduceMul, Nat.reduceSub, Nat.not_lt_zero, Nat.zero_le, reduceCtorEq, ite_self, n_rem, and_self, and_true, true_and, and_false, false_and, Nat.le_refl]
end Far
