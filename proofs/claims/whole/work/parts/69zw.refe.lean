/-! clauses: the reference's words, numbers and clauses -/
theorem wch_b : wch 0 = 98 ∧ wch 1 = 101 ∧ wch 2 = 108 ∧ wch 3 = 105 ∧ wch 4 = 101 ∧ wch 5 = 118 ∧ wch 6 = 101 ∧ wch 7 = 115 ∧ wlen 0 = 8 := by decide +kernel
section RefE
variable {sc : Sc} {d : Nat} {T : Option Nat} {b : Nat → Nat} {n L x0 : Nat} {I : Nat → Nat → Int32} {J : Nat → Nat → Int64}
theorem tX_2 {p : Nat} (h : tT b n p = 2) : tX b n p = wlN isL b n (tS b n p) := by
  unfold tX nxq
  unfold tT tkq at h
  by_cases c : n ≤ tS b n p
  · rw [if_pos c] at h
    omega
  · rw [if_neg c] at h ⊢
    by_cases c2 : isD (b (tS b n p)) = true
    · rw [if_pos c2] at h
      omega
    · rw [if_neg c2] at h
      by_cases c1 : isL (b (tS b n p)) = true
      · rw [if_pos c1]
      · exfalso
        rw [if_neg c1] at h
        split at h
        · split at h <;> omega
        · split at h
          · next cs =>
            have := of_decide_eq_true cs
            omega
          · omega
theorem lc_4 {a1 a2 a3 a4 c1 c2 c3 c4 V : Nat} (h1 : a1 < 256) (h2 : a2 < 256) (h3 : a3 < 256) (h4 : a4 < 256) (hV : V = ((c1 * 256 + c2) * 256 + c3) * 256 + c4) (k1 : c1 < 256) (k2 : c2 < 256) (k3 : c3 < 256) (k4 : c4 < 256) : (lg_cmp (lN (((a1 * 256 + a2) * 256 + a3) * 256 + a4)) (lN V) = nI 0) = (a1 = c1 ∧ a2 = c2 ∧ a3 = c3 ∧ a4 = c4) := by
  have e : (lg_cmp (lN (((a1 * 256 + a2) * 256 + a3) * 256 + a4)) (lN V) = nI 0) = (lN (((a1 * 256 + a2) * 256 + a3) * 256 + a4) = lN V) := j_eq _ _
  rw [e, hV]
  apply propext
  rw [pk_lEQ (by omega) (by omega)]
  omega
theorem sp_isBel {p : Nat} (t : TpM I b n) (hp : p ≤ n) (k : TkM I J b n p) : ∀ Q, Rn sc (d + 3) 195 0 [some (.ref 89)] [] (K0, I, J, R1 T) Q = Q (some (.int (bI (tK b n p = 0)))) (K0, I, J, R1 T) := by
  intro Q
  have n3 := t.1
  have hb : ∀ k, k < n → b k < 256 := fun k hk => (t.2.2 k hk).2
  obtain ⟨e7, e8, e9, -, -⟩ := k
  have tl := tT_lt (p := p) hb
  obtain ⟨g1, g2⟩ := tS_le (b := b) hp
  have kw0 := tk_w (b := b) hp (show 0 < 28 by decide)
  by_cases c : tT b n p = 2
  · have ex := tX_2 c
    have w1 := wl_ge (P := isL) (b := b) g2
    have w2 := wl_le (P := isL) (b := b) g2
    rw [ex] at e7
    obtain ⟨q, eq⟩ : ∃ q, q = tS b n p := ⟨_, rfl⟩
    obtain ⟨e, ee⟩ : ∃ e, e = wlN isL b n (tS b n p) := ⟨_, rfl⟩
    rw [← ee] at e7 w1 w2 kw0
    rw [← eq] at e8 w1 kw0
    by_cases c8 : e - q = 8
    · have by0 := fun (i : Nat) (hi : i < 8) (Q : Option Value → Mm → Prop) => sp_byteY (sc := sc) (d := d + 2) (T := T) (J := J) (Q := Q) (k := q + i) t (by omega)
      have b0 := fun (Q : Option Value → Mm → Prop) => sp_byteY (sc := sc) (d := d + 2) (T := T) (J := J) (Q := Q) (k := q) t (by omega)
      have b1 := by0 1 (by decide)
      have b2 := by0 2 (by decide)
      have b3 := by0 3 (by decide)
      have b4 := by0 4 (by decide)
      have b5 := by0 5 (by decide)
      have b6 := by0 6 (by decide)
      have b7 := by0 7 (by decide)
      have hbq : ∀ i, i < 8 → b (q + i) < 256 := fun i hi => hb _ (by omega)
      have y0 : b q < 256 := hb q (by omega)
      have y1 := hbq 1 (by decide)
      have y2 := hbq 2 (by decide)
      have y3 := hbq 3 (by decide)
      have y4 := hbq 4 (by decide)
      have y5 := hbq 5 (by decide)
      have y6 := hbq 6 (by decide)
      have y7 := hbq 7 (by decide)
      have l1 := lc_4 (a1 := b q) (a2 := b (q + 1)) (a3 := b (q + 2)) (a4 := b (q + 3)) (c1 := 98) (c2 := 101) (c3 := 108) (c4 := 105) (V := 1650814057) y0 y1 y2 y3 (by decide) (by decide) (by decide) (by decide) (by decide)
      have l2 := lc_4 (a1 := b (q + 4)) (a2 := b (q + 5)) (a3 := b (q + 6)) (a4 := b (q + 7)) (c1 := 101) (c2 := 118) (c3 := 101) (c4 := 115) (V := 1702258035) y4 y5 y6 y7 (by decide) (by decide) (by decide) (by decide) (by decide)
      obtain ⟨v0, v1, v2, v3, v4, v5, v6, v7, vl⟩ := wch_b
      have ki : tK b n p = 0 ↔ ((b q = 98 ∧ b (q + 1) = 101 ∧ b (q + 2) = 108 ∧ b (q + 3) = 105) ∧ (b (q + 4) = 101 ∧ b (q + 5) = 118 ∧ b (q + 6) = 101 ∧ b (q + 7) = 115)) := by
        rw [kw0]
        unfold isW
        rw [c8]
        constructor
        · rintro ⟨-, -, h⟩
          have h0 := h 0 (by decide)
          have h1 := h 1 (by decide)
          have h2 := h 2 (by decide)
          have h3 := h 3 (by decide)
          have h4 := h 4 (by decide)
          have h5 := h 5 (by decide)
          have h6 := h 6 (by decide)
          have h7 := h 7 (by decide)
          simp only [Nat.zero_mul, Nat.zero_add, Nat.add_zero] at h0 h1 h2 h3 h4 h5 h6 h7
          exact ⟨⟨h0.trans v0, h1.trans v1, h2.trans v2, h3.trans v3⟩, h4.trans v4, h5.trans v5, h6.trans v6, h7.trans v7⟩
        · rintro ⟨⟨h0, h1, h2, h3⟩, h4, h5, h6, h7⟩
          refine ⟨c, vl.symm, fun i hi => ?_⟩
          have : i = 0 ∨ i = 1 ∨ i = 2 ∨ i = 3 ∨ i = 4 ∨ i = 5 ∨ i = 6 ∨ i = 7 := by omega
          rcases this with rfl | rfl | rfl | rfl | rfl | rfl | rfl | rfl
          · exact h0.trans v0.symm
          · exact h1.trans v1.symm
          · exact h2.trans v2.symm
          · exact h3.trans v3.symm
          · exact h4.trans v4.symm
          · exact h5.trans v5.symm
          · exact h6.trans v6.symm
          · exact h7.trans v7.symm
      by_cases c1 : b q = 98 ∧ b (q + 1) = 101 ∧ b (q + 2) = 108 ∧ b (q + 3) = 105
      · rw [eq_true c1] at l1
        by_cases c2 : b (q + 4) = 101 ∧ b (q + 5) = 118 ∧ b (q + 6) = 101 ∧ b (q + 7) = 115
        · rw [eq_true c2] at l2
          rw [bI_t (ki.mpr ⟨c1, c2⟩)]
          simp (disch := first | assumption | omega | decide) only [x195_0, x195_1, x195_2, x195_3, x195_4, x195_5, x195_6, x195_7, x195_8, x195_9, x195_10, x195_11, x195_12, x195_13, x195_14, x195_15, x195_16, x195_17, x195_18, x195_19, x195_20, x195_21, x195_22, x195_23, x195_24, x195_25, x195_26, x195_27, x195_28, x195_29, x195_30, x195_31, x195_32, x195_33, x195_34, x195_35, x195_36, x195_37, x195_38, x195_39, x195_40, x195_41, x195_42, x195_43, x195_44, x195_45, x195_46, x195_47, x195_48, x195_49, x195_50, x195_51, x195_52, x195_53, x195_54, x195_55, x195_56, x195_57, x195_58, x195_59, x195_60, x195_61, x195_62, x195_63, x195_64, x195_65, x195_66, x195_67, x195_68, x195_69, x195_70, x195_71, x195_72, x195_73, x195_74, x195_75, x195_76, ↓reduceIte, Option.toList, List.nil_append, List.cons_append, nI_add, pk_mul, n_and, n_or, n_xor, nI_leI, nI_ltI, nI_eq, n_z, uI_s, uI_n, bI_n0, bI_n1, bT, bF, if_true, if_false, not_true, not_false_eq_true, pk_div, pk_rem, Nat.reduceEqDiff, Nat.reduceLeDiff, Nat.reduceLT, Nat.reduceAdd, Nat.reduceMul, Nat.reduceSub, Nat.not_lt_zero, Nat.zero_le, reduceCtorEq, ite_self, n_rem, and_self, and_true, true_and, and_false, false_and, e9, c, e7, e8, n_sub w1, c8, b0, b1, b2, b3, b4, b5, b6, b7, sp_w4, l1, l2]
        · rw [eq_false c2] at l2
          rw [bI_f (fun h => c2 (ki.mp h).2)]
          simp (disch := first | assumption | omega | decide) only [x195_0, x195_1, x195_2, x195_3, x195_4, x195_5, x195_6, x195_7, x195_8, x195_9, x195_10, x195_11, x195_12, x195_13, x195_14, x195_15, x195_16, x195_17, x195_18, x195_19, x195_20, x195_21, x195_22, x195_23, x195_24, x195_25, x195_26, x195_27, x195_28, x195_29, x195_30, x195_31, x195_32, x195_33, x195_34, x195_35, x195_36, x195_37, x195_38, x195_39, x195_40, x195_41, x195_42, x195_43, x195_44, x195_45, x195_46, x195_47, x195_48, x195_49, x195_50, x195_51, x195_52, x195_53, x195_54, x195_55, x195_56, x195_57, x195_58, x195_59, x195_60, x195_61, x195_62, x195_63, x195_64, x195_65, x195_66, x195_67, x195_68, x195_69, x195_70, x195_71, x195_72, x195_73, x195_74, x195_75, x195_76, ↓reduceIte, Option.toList, List.nil_append, List.cons_append, nI_add, pk_mul, n_and, n_or, n_xor, nI_leI, nI_ltI, nI_eq, n_z, uI_s, uI_n, bI_n0, bI_n1, bT, bF, if_true, if_false, not_true, not_false_eq_true, pk_div, pk_rem, Nat.reduceEqDiff, Nat.reduceLeDiff, Nat.reduceLT, Nat.reduceAdd, Nat.reduceMul, Nat.reduceSub, Nat.not_lt_zero, Nat.zero_le, reduceCtorEq, ite_self, n_rem, and_self, and_true, true_and, and_false, false_and, e9, c, e7, e8, n_sub w1, c8, b0, b1, b2, b3, b4, b5, b6, b7, sp_w4, l1, l2]
      · rw [eq_false c1] at l1
        rw [bI_f (fun h => c1 (ki.mp h).1)]
        simp (disch := first | assumption | omega | decide) only [x195_0, x195_1, x195_2, x195_3, x195_4, x195_5, x195_6, x195_7, x195_8, x195_9, x195_10, x195_11, x195_12, x195_13, x195_14, x195_15, x195_16, x195_17, x195_18, x195_19, x195_20, x195_21, x195_22, x195_23, x195_24, x195_25, x195_26, x195_27, x195_28, x195_29, x195_30, x195_31, x195_32, x195_33, x195_34, x195_35, x195_36, x195_37, x195_38, x195_39, x195_40, x195_41, x195_42, x195_43, x195_44, x195_45, x195_46, x195_47, x195_48, x195_49, x195_50, x195_51, x195_52, x195_53, x195_54, x195_55, x195_56, x195_57, x195_58, x195_59, x195_60, x195_61, x195_62, x195_63, x195_64, x195_65, x195_66, x195_67, x195_68, x195_69, x195_70, x195_71, x195_72, x195_73, x195_74, x195_75, x195_76, ↓reduceIte, Option.toList, List.nil_append, List.cons_append, nI_add, pk_mul, n_and, n_or, n_xor, nI_leI, nI_ltI, nI_eq, n_z, uI_s, uI_n, bI_n0, bI_n1, bT, bF, if_true, if_false, not_true, not_false_eq_true, pk_div, pk_rem, Nat.reduceEqDiff, Nat.reduceLeDiff, Nat.reduceLT, Nat.reduceAdd, Nat.reduceMul, Nat.reduceSub, Nat.not_lt_zero, Nat.zero_le, reduceCtorEq, ite_self, n_rem, and_self, and_true, true_and, and_false, false_and, e9, c, e7, e8, n_sub w1, c8, b0, b1, b2, b3, sp_w4, l1]
    · have nk : ¬ tK b n p = 0 := fun h => by
        have h2 := (kw0.mp h).2.1
        rw [wch_b.2.2.2.2.2.2.2.2] at h2
        exact c8 h2
      have q300 : e - q ≤ 300 := by omega
      rw [bI_f nk]
      simp (disch := first | assumption | omega | decide) only [x195_0, x195_1, x195_2, x195_3, x195_4, x195_5, x195_6, x195_7, x195_8, x195_9, x195_10, x195_11, x195_12, x195_13, x195_14, x195_15, x195_16, x195_17, x195_18, x195_19, x195_20, x195_21, x195_22, x195_23, x195_24, x195_25, x195_26, x195_27, x195_28, x195_29, x195_30, x195_31, x195_32, x195_33, x195_34, x195_35, x195_36, x195_37, x195_38, x195_39, x195_40, x195_41, x195_42, x195_43, x195_44, x195_45, x195_46, x195_47, x195_48, x195_49, x195_50, x195_51, x195_52, x195_53, x195_54, x195_55, x195_56, x195_57, x195_58, x195_59, x195_60, x195_61, x195_62, x195_63, x195_64, x195_65, x195_66, x195_67, x195_68, x195_69, x195_70, x195_71, x195_72, x195_73, x195_74, x195_75, x195_76, ↓reduceIte, Option.toList, List.nil_append, List.cons_append, nI_add, pk_mul, n_and, n_or, n_xor, nI_leI, nI_ltI, nI_eq, n_z, uI_s, uI_n, bI_n0, bI_n1, bT, bF, if_true, if_false, not_true, not_false_eq_true, pk_div, pk_rem, Nat.reduceEqDiff, Nat.reduceLeDiff, Nat.reduceLT, Nat.reduceAdd, Nat.reduceMul, Nat.reduceSub, Nat.not_lt_zero, Nat.zero_le, reduceCtorEq, ite_self, n_rem, and_self, and_true, true_and, and_false, false_and, e9, c, e7, e8, n_sub w1, c8]
  · have nk : ¬ tK b n p = 0 := fun h => c (kw0.mp h).1
    rw [bI_f nk]
    simp (disch := first | assumption | omega | decide) only [x195_0, x195_1, x195_2, x195_3, x195_4, x195_5, x195_6, x195_7, x195_8, x195_9, x195_10, x195_11, x195_12, x195_13, x195_14, x195_15, x195_16, x195_17, x195_18, x195_19, x195_20, x195_21, x195_22, x195_23, x195_24, x195_25, x195_26, x195_27, x195_28, x195_29, x195_30, x195_31, x195_32, x195_33, x195_34, x195_35, x195_36, x195_37, x195_38, x195_39, x195_40, x195_41, x195_42, x195_43, x195_44, x195_45, x195_46, x195_47, x195_48, x195_49, x195_50, x195_51, x195_52, x195_53, x195_54, x195_55, x195_56, x195_57, x195_58, x195_59, x195_60, x195_61, x195_62, x195_63, x195_64, x195_65, x195_66, x195_67, x195_68, x195_69, x195_70, x195_71, x195_72, x195_73, x195_74, x195_75, x195_76, ↓reduceIte, Option.toList, List.nil_append, List.cons_append, nI_add, pk_mul, n_and, n_or, n_xor, nI_leI, nI_ltI, nI_eq, n_z, uI_s, uI_n, bI_n0, bI_n1, bT, bF, if_true, if_false, not_true, not_false_eq_true, pk_div, pk_rem, Nat.reduceEqDiff, Nat.reduceLeDiff, Nat.reduceLT, Nat.reduceAdd, Nat.reduceMul, Nat.reduceSub, Nat.not_lt_zero, Nat.zero_le, reduceCtorEq, ite_self, n_rem, and_self, and_true, true_and, and_false, false_and, e9, c]
theorem sp_sort {p : Nat} (t : TpM I b n) (hp : p ≤ n) (k : TkM I J b n p) : ∀ Q, Rn sc (d + 6) 216 0 [some (.ref 89)] [] (K0, I, J, R1 T) Q = Q (some (.int (if tK b n p ≤ 7 then nI (tK b n p) else -1))) (K0, I, J, R1 T) := by
  intro Q
  have hb : ∀ k, k < n → b k < 256 := fun k hk => (t.2.2 k hk).2
  have ib := sp_isBel (sc := sc) (d := d + 2) (T := T) t hp k
  have i1 := fun Q => iw_1 (sc := sc) (d := d + 5) (T := T) (Q := Q) hp hb k
  have i2 := fun Q => iw_2 (sc := sc) (d := d + 5) (T := T) (Q := Q) hp hb k
  have i3 := fun Q => iw_3 (sc := sc) (d := d + 5) (T := T) (Q := Q) hp hb k
  have i4 := fun Q => iw_4 (sc := sc) (d := d + 5) (T := T) (Q := Q) hp hb k
  have i5 := fun Q => iw_5 (sc := sc) (d := d + 5) (T := T) (Q := Q) hp hb k
  have i6 := fun Q => iw_6 (sc := sc) (d := d + 5) (T := T) (Q := Q) hp hb k
  have i7 := fun Q => iw_7 (sc := sc) (d := d + 5) (T := T) (Q := Q) hp hb k
  by_cases r : tK b n p ≤ 7
  · rw [if_pos r]
    have : tK b n p = 0 ∨ tK b n p = 1 ∨ tK b n p = 2 ∨ tK b n p = 3 ∨ tK b n p = 4 ∨ tK b n p = 5 ∨ tK b n p = 6 ∨ tK b n p = 7 := by omega
    rcases this with e | e | e | e | e | e | e | e <;> (rw [e] at ib i1 i2 i3 i4 i5 i6 i7; rw [e]; simp (disch := first | assumption | omega | decide) only [x216_0, x216_1, x216_2, x216_3, x216_4, x216_5, x216_6, x216_7, x216_8, x216_9, x216_10, x216_11, x216_12, x216_13, x216_14, x216_15, x216_16, x216_17, x216_18, x216_19, x216_20, x216_21, x216_22, x216_23, x216_24, x216_25, x216_26, x216_27, x216_28, x216_29, x216_30, x216_31, x216_32, x216_33, x216_34, x216_35, x216_36, x216_37, x216_38, x216_39, x216_40, x216_41, x216_42, x216_43, x216_44, x216_45, x216_46, x216_47, x216_48, x216_49, x216_50, x216_51, x216_52, x216_53, x216_54, x216_55, x216_56, x216_57, x216_58, x216_59, x216_60, x216_61, x216_62, x216_63, x216_64, x216_65, x216_66, x216_67, x216_68, x216_69, x216_70, x216_71, x216_72, x216_73, x216_74, x216_75, x216_76, x216_77, x216_78, ↓reduceIte, Option.toList, List.nil_append, List.cons_append, nI_add, pk_mul, n_and, n_or, n_xor, nI_leI, nI_ltI, nI_eq, n_z, uI_s, uI_n, bI_n0, bI_n1, bT, bF, if_true, if_false, not_true, not_false_eq_true, pk_div, pk_rem, Nat.reduceEqDiff, Nat.reduceLeDiff, Nat.reduceLT, Nat.reduceAdd, Nat.reduceMul, Nat.reduceSub, Nat.not_lt_zero, Nat.zero_le, reduceCtorEq, ite_self, n_rem, and_self, and_true, true_and, and_false, false_and, ib, sp_w3, sp_w4, sp_w5, sp_w6, i1, i2, i3, i4, i5, i6, i7])
  · rw [if_neg r]
    rw [bI_f (show ¬ tK b n p = 0 by omega)] at ib
    rw [bI_f (show ¬ tK b n p = 1 by omega)] at i1
    rw [bI_f (show ¬ tK b n p = 2 by omega)] at i2
    rw [bI_f (show ¬ tK b n p = 3 by omega)] at i3
    rw [bI_f (show ¬ tK b n p = 4 by omega)] at i4
    rw [bI_f (show ¬ tK b n p = 5 by omega)] at i5
    rw [bI_f (show ¬ tK b n p = 6 by omega)] at i6
    rw [bI_f (show ¬ tK b n p = 7 by omega)] at i7
    simp (disch := first | assumption | omega | decide) only [x216_0, x216_1, x216_2, x216_3, x216_4, x216_5, x216_6, x216_7, x216_8, x216_9, x216_10, x216_11, x216_12, x216_13, x216_14, x216_15, x216_16, x216_17, x216_18, x216_19, x216_20, x216_21, x216_22, x216_23, x216_24, x216_25, x216_26, x216_27, x216_28, x216_29, x216_30, x216_31, x216_32, x216_33, x216_34, x216_35, x216_36, x216_37, x216_38, x216_39, x216_40, x216_41, x216_42, x216_43, x216_44, x216_45, x216_46, x216_47, x216_48, x216_49, x216_50, x216_51, x216_52, x216_53, x216_54, x216_55, x216_56, x216_57, x216_58, x216_59, x216_60, x216_61, x216_62, x216_63, x216_64, x216_65, x216_66, x216_67, x216_68, x216_69, x216_70, x216_71, x216_72, x216_73, x216_74, x216_75, x216_76, x216_77, x216_78, ↓reduceIte, Option.toList, List.nil_append, List.cons_append, nI_add, pk_mul, n_and, n_or, n_xor, nI_leI, nI_ltI, nI_eq, n_z, uI_s, uI_n, bI_n0, bI_n1, bT, bF, if_true, if_false, not_true, not_false_eq_true, pk_div, pk_rem, Nat.reduceEqDiff, Nat.reduceLeDiff, Nat.reduceLT, Nat.reduceAdd, Nat.reduceMul, Nat.reduceSub, Nat.not_lt_zero, Nat.zero_le, reduceCtorEq, ite_self, n_rem, and_self, and_true, true_and, and_false, false_and, ib, sp_w3, sp_w4, sp_w5, sp_w6, i1, i2, i3, i4, i5, i6, i7]
theorem sp_fig {p lo hi x : Nat} (hx : x < 2724) (hlo : lo ≤ 9999) (hi9 : hi ≤ 9999) (t : TpM I b n) (hp : p ≤ n) (k : TkM I J b n p) : ∃ I' J', (∀ c k, (c ≠ 89 ∨ k < 7 ∨ 10 < k) → (c ≠ 92 ∨ k ≠ x) → I' c k = I c k) ∧ RsO (rdN b n lo hi p) (fun f y => 0 < f ∧ f < 7 ∧ I' 89 8 = nI y ∧ ∀ Q, Rn sc (d + 2) 212 0 [some (.ref 89), some (.int (nI x)), some (.int (nI lo)), some (.int (nI hi))] [] (K0, I, J, R1 T) Q = Q (some (.int (nI f))) (K0, I', J', R1 T)) (fun _ p' => p' = tX b n p ∧ TpM I' b n ∧ p' ≤ n ∧ TkM I' J' b n p' ∧ I' 92 x = nI (tV b n p) ∧ tV b n p ≤ hi ∧ ∀ Q, Rn sc (d + 2) 212 0 [some (.ref 89), some (.int (nI x)), some (.int (nI lo)), some (.int (nI hi))] [] (K0, I, J, R1 T) Q = Q (some (.int (nI 0))) (K0, I', J', R1 T)) := by
  have hb : ∀ k, k < n → b k < 256 := fun k hk => (t.2.2 k hk).2
  have k9 := k.2.2.1
  have tl := tT_lt (p := p) hb
  have e1 := tks (p := p) hb (s := 41) (by decide) (by decide) (c := 1) rfl
  unfold rdN
  by_cases c1 : tK b n p = 41
  · rw [if_pos c1]
    obtain ⟨z, z20, kz, ez⟩ := k.2.2.2.1 (e1.mpr c1)
    have wi : ∀ Q, Rn sc (d + 1) 169 0 [some (.int (nI z)), some (.int (nI lo)), some (.int (nI hi))] [] (K0, I, J, R1 T) Q = Q (some (.int (bI (nI lo ≤ nI z ∧ nI z ≤ nI hi)))) (K0, I, J, R1 T) := fun Q => sp_isIn
    have wq : (nI lo ≤ nI z ∧ nI z ≤ nI hi) ↔ (lo ≤ z ∧ z ≤ hi) := by
      rw [nI_leI (by omega) (by omega), nI_leI (by omega) (by omega)]
    by_cases c2 : lo ≤ tV b n p ∧ tV b n p ≤ hi
    · rw [if_pos c2]
      have ev : z = tV b n p := by
        split at ez <;> omega
      rw [ev] at kz wi wq
      rw [bI_t (wq.mpr c2)] at wi
      have t1 : TpM (uI I 92 x (nI (tV b n p))) b n := TpM_r t (fun k hk => uI_n (by omega)) (fun k => uI_n (by omega))
      have k1 : TkM (uI I 92 x (nI (tV b n p))) J b n p := TkM_r k (fun k a1 a2 => uI_n (by omega))
      obtain ⟨I2, J2, f2, t2, k2, q2⟩ := nxM (sc := sc) (d := d) (T := T) t1 hp k1
      refine ⟨I2, J2, fun c k a1 a2 => by rw [f2 c k (by omega), uI_n (by omega)], rfl, t2, (tX_le (b := b) hp).2.1, k2, by rw [f2 _ _ (by omega), uI_s], c2.2, fun Q => ?_⟩
      simp (disch := first | assumption | omega | decide) only [x212_0, x212_1, x212_2, x212_3, x212_4, x212_5, x212_6, x212_7, x212_8, x212_9, x212_10, x212_11, x212_12, x212_13, x212_14, x212_15, x212_16, x212_17, x212_18, x212_19, x212_20, x212_21, x212_22, x212_23, ↓reduceIte, Option.toList, List.nil_append, List.cons_append, nI_add, pk_mul, n_and, n_or, n_xor, nI_leI, nI_ltI, nI_eq, n_z, uI_s, uI_n, bI_n0, bI_n1, bT, bF, if_true, if_false, not_true, not_false_eq_true, pk_div, pk_rem, Nat.reduceEqDiff, Nat.reduceLeDiff, Nat.reduceLT, Nat.reduceAdd, Nat.reduceMul, Nat.reduceSub, Nat.not_lt_zero, Nat.zero_le, reduceCtorEq, ite_self, n_rem, and_self, and_true, true_and, and_false, false_and, k9, e1, c1, kz, wi, q2]
    · rw [if_neg c2]
      have nz : ¬ (lo ≤ z ∧ z ≤ hi) := by
        split at ez <;> omega
      rw [bI_f (fun q => nz (wq.mp q))] at wi
      refine ⟨I, J, fun _ _ _ _ => rfl, by decide, by decide, k.2.1, fun Q => ?_⟩
      simp (disch := first | assumption | omega | decide) only [x212_0, x212_1, x212_2, x212_3, x212_4, x212_5, x212_6, x212_7, x212_8, x212_9, x212_10, x212_11, x212_12, x212_13, x212_14, x212_15, x212_16, x212_17, x212_18, x212_19, x212_20, x212_21, x212_22, x212_23, ↓reduceIte, Option.toList, List.nil_append, List.cons_append, nI_add, pk_mul, n_and, n_or, n_xor, nI_leI, nI_ltI, nI_eq, n_z, uI_s, uI_n, bI_n0, bI_n1, bT, bF, if_true, if_false, not_true, not_false_eq_true, pk_div, pk_rem, Nat.reduceEqDiff, Nat.reduceLeDiff, Nat.reduceLT, Nat.reduceAdd, Nat.reduceMul, Nat.reduceSub, Nat.not_lt_zero, Nat.zero_le, reduceCtorEq, ite_self, n_rem, and_self, and_true, true_and, and_false, false_and, k9, e1, c1, kz, wi]
  · rw [if_neg c1]
    refine ⟨I, J, fun _ _ _ _ => rfl, by decide, by decide, k.2.1, fun Q => ?_⟩
    simp (disch := first | assumption | omega | decide) only [x212_0, x212_1, x212_2, x212_3, x212_4, x212_5, x212_6, x212_7, x212_8, x212_9, x212_10, x212_11, x212_12, x212_13, x212_14, x212_15, x212_16, x212_17, x212_18, x212_19, x212_20, x212_21, x212_22, x212_23, ↓reduceIte, Option.toList, List.nil_append, List.cons_append, nI_add, pk_mul, n_and, n_or, n_xor, nI_leI, nI_ltI, nI_eq, n_z, uI_s, uI_n, bI_n0, bI_n1, bT, bF, if_true, if_false, not_true, not_false_eq_true, pk_div, pk_rem, Nat.reduceEqDiff, Nat.reduceLeDiff, Nat.reduceLT, Nat.reduceAdd, Nat.reduceMul, Nat.reduceSub, Nat.not_lt_zero, Nat.zero_le, reduceCtorEq, ite_self, n_rem, and_self, and_true, true_and, and_false, false_and, k9, e1, c1]
/-- what the body of a deed comes to -/
def BdM (I I' : Nat → Nat → Int32) (J' : Nat → Nat → Int64) (b : Nat → Nat) (n x W p : Nat) (r : Int32) : Prop := (∀ c k, (c ≠ 89 ∨ k < 7 ∨ 10 < k) → (c ≠ 92 ∨ (k ≠ x + 1 ∧ k ≠ x + 2)) → I' c k = I c k) ∧ match bodyF b n W p with
  | .inl (f, y) => 0 < f ∧ f < 7 ∧ I' 89 8 = nI y ∧ r = nI f
  | .inr (F, S, p3) => TpM I' b n ∧ p3 ≤ n ∧ TkM I' J' b n p3 ∧ I' 92 (x + 1) = nI F ∧ (W ≤ 6 → I' 92 (x + 2) = nI S) ∧ F ≤ 60 ∧ S ≤ 999 ∧ r = nI 0
theorem sp_pair {W V p x : Nat} (hW : 2 ≤ W ∧ W ≤ 6) (hV : V = wV (wdW W)) (hx : x + 2 < 2724) (t : TpM I b n) (hp : p ≤ n) (k : TkM I J b n p) : ∃ I' J' r, BdM I I' J' b n x W p r ∧ ∀ Q, Rn sc (d + 3) 214 0 [some (.ref 89), some (.int (nI x)), some (.int (nI (hiF W))), some (.long (lN V)), none, some (.int (nI (h2F W))), none] [] (K0, I, J, R1 T) Q = Q (some (.int r)) (K0, I', J', R1 T) := by
  obtain ⟨b1, b2, b3, b4⟩ := hi_l W
  have lo0 : loF W = 0 := if_neg (by omega)
  have w1 : 0 < wdW W ∧ wdW W < 28 := by
    have : W = 2 ∨ W = 3 ∨ W = 4 ∨ W = 5 ∨ W = 6 := by omega
    rcases this with rfl | rfl | rfl | rfl | rfl <;> decide
  obtain ⟨I1, J1, f1, r1⟩ := sp_fig (sc := sc) (d := d) (T := T) (lo := 0) (hi := hiF W) (x := x + 1) (by omega) (by omega) (by omega) t hp k
  unfold BdM bodyF
  rw [lo0]
  rcases e1 : rdN b n 0 (hiF W) p with ⟨f, y⟩ | ⟨c, p1⟩
  · rw [e1] at r1
    obtain ⟨z1, z2, z3, z4⟩ := r1
    have f0 : ¬ f = 0 := by omega
    refine ⟨I1, J1, nI f, ⟨fun c k a1 a2 => f1 c k a1 (by omega), z1, z2, z3, rfl⟩, fun Q => ?_⟩
    simp (disch := first | assumption | omega | decide) only [x214_0, x214_1, x214_2, x214_3, x214_4, x214_5, x214_6, x214_7, x214_8, x214_9, x214_10, x214_11, ↓reduceIte, Option.toList, List.nil_append, List.cons_append, nI_add, pk_mul, n_and, n_or, n_xor, nI_leI, nI_ltI, nI_eq, n_z, uI_s, uI_n, bI_n0, bI_n1, bT, bF, if_true, if_false, not_true, not_false_eq_true, pk_div, pk_rem, Nat.reduceEqDiff, Nat.reduceLeDiff, Nat.reduceLT, Nat.reduceAdd, Nat.reduceMul, Nat.reduceSub, Nat.not_lt_zero, Nat.zero_le, reduceCtorEq, ite_self, n_rem, and_self, and_true, true_and, and_false, false_and, z4, f0]
  · rw [e1] at r1
    obtain ⟨ep, t1, hp1, k1, v1, vl1, q1⟩ := r1
    show ∃ I' J' r, (_ ∧ match (if W = 7 then .inr (tV b n p, 0, p1) else match xpt b n (wdW W) ([], []) p1 with
        | .inl e => .inl e
        | .inr (_, p2) => match rdN b n 0 (h2F W) p2 with
          | .inl e => .inl e
          | .inr (_, p3) => .inr (tV b n p, tV b n p2, p3) : Sum (Nat × Nat) (Nat × Nat × Nat)) with
      | .inl (f, y) => 0 < f ∧ f < 7 ∧ I' 89 8 = nI y ∧ r = nI f
      | .inr (F, S, p3) => TpM I' b n ∧ p3 ≤ n ∧ TkM I' J' b n p3 ∧ I' 92 (x + 1) = nI F ∧ (W ≤ 6 → I' 92 (x + 2) = nI S) ∧ F ≤ 60 ∧ S ≤ 999 ∧ r = nI 0) ∧ _
    rw [if_neg (show ¬ W = 7 by omega)]
    have hb : ∀ k, k < n → b k < 256 := fun k hk => (t.2.2 k hk).2
    have iw := fun Q => sp_isWd (sc := sc) (d := d + 2) (T := T) (Q := Q) hV hp1 hb w1.2 w1.1 k1
    rcases xp_i (b := b) (n := n) (wdW W) p1 with ⟨h2, k2⟩ | ⟨h2, k2⟩
    · rw [h2]
      rw [bI_f k2] at iw
      refine ⟨I1, J1, nI 1, ⟨fun c k a1 a2 => f1 c k a1 (by omega), by decide, by decide, k1.2.1, rfl⟩, fun Q => ?_⟩
      simp (disch := first | assumption | omega | decide) only [x214_0, x214_1, x214_2, x214_3, x214_4, x214_5, x214_6, x214_7, x214_8, x214_9, x214_10, x214_11, x214_12, x214_13, x214_14, x214_15, x214_16, x214_17, ↓reduceIte, Option.toList, List.nil_append, List.cons_append, nI_add, pk_mul, n_and, n_or, n_xor, nI_leI, nI_ltI, nI_eq, n_z, uI_s, uI_n, bI_n0, bI_n1, bT, bF, if_true, if_false, not_true, not_false_eq_true, pk_div, pk_rem, Nat.reduceEqDiff, Nat.reduceLeDiff, Nat.reduceLT, Nat.reduceAdd, Nat.reduceMul, Nat.reduceSub, Nat.not_lt_zero, Nat.zero_le, reduceCtorEq, ite_self, n_rem, and_self, and_true, true_and, and_false, false_and, q1, iw]
    · rw [h2]
      rw [bI_t k2] at iw
      obtain ⟨I2, J2, f2, t2, kk2, q2⟩ := nxM (sc := sc) (d := d + 1) (T := T) t1 hp1 k1
      have hp2 := (tX_le (b := b) hp1).2.1
      obtain ⟨I3, J3, f3, r3⟩ := sp_fig (sc := sc) (d := d) (T := T) (J := J2) (lo := 0) (hi := h2F W) (x := x + 2) (by omega) (by omega) (by omega) t2 hp2 kk2
      have fr : ∀ c k, (c ≠ 89 ∨ k < 7 ∨ 10 < k) → (c ≠ 92 ∨ (k ≠ x + 1 ∧ k ≠ x + 2)) → I3 c k = I c k := fun c k a1 a2 => by rw [f3 c k a1 (by omega), f2 c k (by omega), f1 c k a1 (by omega)]
      show ∃ I' J' r, (_ ∧ match (match rdN b n 0 (h2F W) (tX b n p1) with
          | .inl e => .inl e
          | .inr (_, p3) => .inr (tV b n p, tV b n (tX b n p1), p3) : Sum (Nat × Nat) (Nat × Nat × Nat)) with
        | .inl (f, y) => 0 < f ∧ f < 7 ∧ I' 89 8 = nI y ∧ r = nI f
        | .inr (F, S, p3) => TpM I' b n ∧ p3 ≤ n ∧ TkM I' J' b n p3 ∧ I' 92 (x + 1) = nI F ∧ (W ≤ 6 → I' 92 (x + 2) = nI S) ∧ F ≤ 60 ∧ S ≤ 999 ∧ r = nI 0) ∧ _
      rcases e3 : rdN b n 0 (h2F W) (tX b n p1) with ⟨f, y⟩ | ⟨c3, p3⟩
      · rw [e3] at r3
        obtain ⟨z1, z2, z3, z4⟩ := r3
        refine ⟨I3, J3, nI f, ⟨fr, z1, z2, z3, rfl⟩, fun Q => ?_⟩
        simp (disch := first | assumption | omega | decide) only [x214_0, x214_1, x214_2, x214_3, x214_4, x214_5, x214_6, x214_7, x214_8, x214_9, x214_10, x214_11, x214_12, x214_13, x214_14, x214_15, x214_16, x214_17, x214_18, x214_19, x214_20, x214_21, x214_22, x214_23, x214_24, x214_25, x214_26, x214_27, ↓reduceIte, Option.toList, List.nil_append, List.cons_append, nI_add, pk_mul, n_and, n_or, n_xor, nI_leI, nI_ltI, nI_eq, n_z, uI_s, uI_n, bI_n0, bI_n1, bT, bF, if_true, if_false, not_true, not_false_eq_true, pk_div, pk_rem, Nat.reduceEqDiff, Nat.reduceLeDiff, Nat.reduceLT, Nat.reduceAdd, Nat.reduceMul, Nat.reduceSub, Nat.not_lt_zero, Nat.zero_le, reduceCtorEq, ite_self, n_rem, and_self, and_true, true_and, and_false, false_and, q1, iw, q2, z4]
      · rw [e3] at r3
        obtain ⟨ep3, t3, hp3, k3, v3, vl3, q3⟩ := r3
        refine ⟨I3, J3, nI 0, ⟨fr, t3, hp3, k3, ?_, fun _ => v3, by omega, by omega, rfl⟩, fun Q => ?_⟩
        · rw [f3 _ _ (by omega) (by omega), f2 _ _ (by omega)]
          exact v1
        · simp (disch := first | assumption | omega | decide) only [x214_0, x214_1, x214_2, x214_3, x214_4, x214_5, x214_6, x214_7, x214_8, x214_9, x214_10, x214_11, x214_12, x214_13, x214_14, x214_15, x214_16, x214_17, x214_18, x214_19, x214_20, x214_21, x214_22, x214_23, x214_24, x214_25, x214_26, x214_27, ↓reduceIte, Option.toList, List.nil_append, List.cons_append, nI_add, pk_mul, n_and, n_or, n_xor, nI_leI, nI_ltI, nI_eq, n_z, uI_s, uI_n, bI_n0, bI_n1, bT, bF, if_true, if_false, not_true, not_false_eq_true, pk_div, pk_rem, Nat.reduceEqDiff, Nat.reduceLeDiff, Nat.reduceLT, Nat.reduceAdd, Nat.reduceMul, Nat.reduceSub, Nat.not_lt_zero, Nat.zero_le, reduceCtorEq, ite_self, n_rem, and_self, and_true, true_and, and_false, false_and, q1, iw, q2, q3]
theorem sp_body {W p x : Nat} (hW : 2 ≤ W ∧ W ≤ 7) (hx : x + 2 < 2724) (t : TpM I b n) (hp : p ≤ n) (k : TkM I J b n p) : ∃ I' J' r, BdM I I' J' b n x W p r ∧ ∀ Q, Rn sc (d + 5) 215 0 [some (.ref 89), some (.int (nI W)), some (.int (nI x))] [] (K0, I, J, R1 T) Q = Q (some (.int r)) (K0, I', J', R1 T) := by
  by_cases c7 : W = 7
  · subst c7
    obtain ⟨I1, J1, f1, r1⟩ := sp_fig (sc := sc) (d := d + 2) (T := T) (lo := 1) (hi := 60) (x := x + 1) (by omega) (by decide) (by decide) t hp k
    unfold BdM bodyF
    show ∃ I' J' r, (_ ∧ match (match rdN b n 1 60 p with
        | .inl e => .inl e
        | .inr (_, p1) => .inr (tV b n p, 0, p1) : Sum (Nat × Nat) (Nat × Nat × Nat)) with
      | .inl (f, y) => 0 < f ∧ f < 7 ∧ I' 89 8 = nI y ∧ r = nI f
      | .inr (F, S, p3) => TpM I' b n ∧ p3 ≤ n ∧ TkM I' J' b n p3 ∧ I' 92 (x + 1) = nI F ∧ (7 ≤ 6 → I' 92 (x + 2) = nI S) ∧ F ≤ 60 ∧ S ≤ 999 ∧ r = nI 0) ∧ _
    rcases e1 : rdN b n 1 60 p with ⟨f, y⟩ | ⟨c, p1⟩
    · rw [e1] at r1
      obtain ⟨z1, z2, z3, z4⟩ := r1
      refine ⟨I1, J1, nI f, ⟨fun c k a1 a2 => f1 c k a1 (by omega), z1, z2, z3, rfl⟩, fun Q => ?_⟩
      simp (disch := first | assumption | omega | decide) only [x215_0, x215_1_7, x215_50, x215_51, x215_52, x215_53, x215_54, x215_55, x215_56, x215_57, ↓reduceIte, Option.toList, List.nil_append, List.cons_append, nI_add, pk_mul, n_and, n_or, n_xor, nI_leI, nI_ltI, nI_eq, n_z, uI_s, uI_n, bI_n0, bI_n1, bT, bF, if_true, if_false, not_true, not_false_eq_true, pk_div, pk_rem, Nat.reduceEqDiff, Nat.reduceLeDiff, Nat.reduceLT, Nat.reduceAdd, Nat.reduceMul, Nat.reduceSub, Nat.not_lt_zero, Nat.zero_le, reduceCtorEq, ite_self, n_rem, and_self, and_true, true_and, and_false, false_and, z4]
    · rw [e1] at r1
      obtain ⟨ep, t1, hp1, k1, v1, vl1, q1⟩ := r1
      refine ⟨I1, J1, nI 0, ⟨fun c k a1 a2 => f1 c k a1 (by omega), t1, hp1, k1, v1, fun h => by omega, vl1, by omega, rfl⟩, fun Q => ?_⟩
      simp (disch := first | assumption | omega | decide) only [x215_0, x215_1_7, x215_50, x215_51, x215_52, x215_53, x215_54, x215_55, x215_56, x215_57, ↓reduceIte, Option.toList, List.nil_append, List.cons_append, nI_add, pk_mul, n_and, n_or, n_xor, nI_leI, nI_ltI, nI_eq, n_z, uI_s, uI_n, bI_n0, bI_n1, bT, bF, if_true, if_false, not_true, not_false_eq_true, pk_div, pk_rem, Nat.reduceEqDiff, Nat.reduceLeDiff, Nat.reduceLT, Nat.reduceAdd, Nat.reduceMul, Nat.reduceSub, Nat.not_lt_zero, Nat.zero_le, reduceCtorEq, ite_self, n_rem, and_self, and_true, true_and, and_false, false_and, q1]
  · have : W = 2 ∨ W = 3 ∨ W = 4 ∨ W = 5 ∨ W = 6 := by omega
    rcases this with rfl | rfl | rfl | rfl | rfl
    · obtain ⟨I1, J1, r, h1, q1⟩ := sp_pair (sc := sc) (d := d + 1) (T := T) (W := 2) (V := 29807) (x := x) (by decide) (by decide +kernel) hx t hp k
      have q1 : ∀ Q, Rn sc (d + 4) 214 0 [some (.ref 89), some (.int (nI x)), some (.int (nI 7)), some (.long (lN 29807)), none, some (.int (nI 7)), none] [] (K0, I, J, R1 T) Q = Q (some (.int r)) (K0, I1, J1, R1 T) := q1
      refine ⟨I1, J1, r, h1, fun Q => ?_⟩
      simp (disch := first | assumption | omega | decide) only [x215_0, x215_1_2, x215_2, x215_3, x215_4, x215_5, x215_6, x215_7, x215_8, x215_9, x215_10, ↓reduceIte, Option.toList, List.nil_append, List.cons_append, nI_add, pk_mul, n_and, n_or, n_xor, nI_leI, nI_ltI, nI_eq, n_z, uI_s, uI_n, bI_n0, bI_n1, bT, bF, if_true, if_false, not_true, not_false_eq_true, pk_div, pk_rem, Nat.reduceEqDiff, Nat.reduceLeDiff, Nat.reduceLT, Nat.reduceAdd, Nat.reduceMul, Nat.reduceSub, Nat.not_lt_zero, Nat.zero_le, reduceCtorEq, ite_self, n_rem, and_self, and_true, true_and, and_false, false_and, sp_w2, q1]
    · obtain ⟨I1, J1, r, h1, q1⟩ := sp_pair (sc := sc) (d := d + 1) (T := T) (W := 3) (V := 483006772069) (x := x) (by decide) (by decide +kernel) hx t hp k
      have q1 : ∀ Q, Rn sc (d + 4) 214 0 [some (.ref 89), some (.int (nI x)), some (.int (nI 1)), some (.long (lN 483006772069)), none, some (.int (nI 999)), none] [] (K0, I, J, R1 T) Q = Q (some (.int r)) (K0, I1, J1, R1 T) := q1
      refine ⟨I1, J1, r, h1, fun Q => ?_⟩
      simp (disch := first | assumption | omega | decide) only [x215_0, x215_1_3, x215_11, x215_12, x215_13, x215_14, x215_15, x215_16, x215_17, x215_18, x215_19, x215_20, x215_21, x215_22, ↓reduceIte, Option.toList, List.nil_append, List.cons_append, nI_add, pk_mul, n_and, n_or, n_xor, nI_leI, nI_ltI, nI_eq, n_z, uI_s, uI_n, bI_n0, bI_n1, bT, bF, if_true, if_false, not_true, not_false_eq_true, pk_div, pk_rem, Nat.reduceEqDiff, Nat.reduceLeDiff, Nat.reduceLT, Nat.reduceAdd, Nat.reduceMul, Nat.reduceSub, Nat.not_lt_zero, Nat.zero_le, reduceCtorEq, ite_self, n_rem, and_self, and_true, true_and, and_false, false_and, sp_w5, q1]
    · obtain ⟨I1, J1, r, h1, q1⟩ := sp_pair (sc := sc) (d := d + 1) (T := T) (W := 4) (V := 24948) (x := x) (by decide) (by decide +kernel) hx t hp k
      have q1 : ∀ Q, Rn sc (d + 4) 214 0 [some (.ref 89), some (.int (nI x)), some (.int (nI 4)), some (.long (lN 24948)), none, some (.int (nI 7)), none] [] (K0, I, J, R1 T) Q = Q (some (.int r)) (K0, I1, J1, R1 T) := q1
      refine ⟨I1, J1, r, h1, fun Q => ?_⟩
      simp (disch := first | assumption | omega | decide) only [x215_0, x215_1_4, x215_23, x215_24, x215_25, x215_26, x215_27, x215_28, x215_29, x215_30, x215_31, ↓reduceIte, Option.toList, List.nil_append, List.cons_append, nI_add, pk_mul, n_and, n_or, n_xor, nI_leI, nI_ltI, nI_eq, n_z, uI_s, uI_n, bI_n0, bI_n1, bT, bF, if_true, if_false, not_true, not_false_eq_true, pk_div, pk_rem, Nat.reduceEqDiff, Nat.reduceLeDiff, Nat.reduceLT, Nat.reduceAdd, Nat.reduceMul, Nat.reduceSub, Nat.not_lt_zero, Nat.zero_le, reduceCtorEq, ite_self, n_rem, and_self, and_true, true_and, and_false, false_and, sp_w2, q1]
    · obtain ⟨I1, J1, r, h1, q1⟩ := sp_pair (sc := sc) (d := d + 1) (T := T) (W := 5) (V := 28518) (x := x) (by decide) (by decide +kernel) hx t hp k
      have q1 : ∀ Q, Rn sc (d + 4) 214 0 [some (.ref 89), some (.int (nI x)), some (.int (nI 7)), some (.long (lN 28518)), none, some (.int (nI 3)), none] [] (K0, I, J, R1 T) Q = Q (some (.int r)) (K0, I1, J1, R1 T) := q1
      refine ⟨I1, J1, r, h1, fun Q => ?_⟩
      simp (disch := first | assumption | omega | decide) only [x215_0, x215_1_5, x215_32, x215_33, x215_34, x215_35, x215_36, x215_37, x215_38, x215_39, x215_40, ↓reduceIte, Option.toList, List.nil_append, List.cons_append, nI_add, pk_mul, n_and, n_or, n_xor, nI_leI, nI_ltI, nI_eq, n_z, uI_s, uI_n, bI_n0, bI_n1, bT, bF, if_true, if_false, not_true, not_false_eq_true, pk_div, pk_rem, Nat.reduceEqDiff, Nat.reduceLeDiff, Nat.reduceLT, Nat.reduceAdd, Nat.reduceMul, Nat.reduceSub, Nat.not_lt_zero, Nat.zero_le, reduceCtorEq, ite_self, n_rem, and_self, and_true, true_and, and_false, false_and, sp_w2, q1]
    · obtain ⟨I1, J1, r, h1, q1⟩ := sp_pair (sc := sc) (d := d + 1) (T := T) (W := 6) (V := 28518) (x := x) (by decide) (by decide +kernel) hx t hp k
      have q1 : ∀ Q, Rn sc (d + 4) 214 0 [some (.ref 89), some (.int (nI x)), some (.int (nI 7)), some (.long (lN 28518)), none, some (.int (nI 3)), none] [] (K0, I, J, R1 T) Q = Q (some (.int r)) (K0, I1, J1, R1 T) := q1
      refine ⟨I1, J1, r, h1, fun Q => ?_⟩
      simp (disch := first | assumption | omega | decide) only [x215_0, x215_1_6, x215_41, x215_42, x215_43, x215_44, x215_45, x215_46, x215_47, x215_48, x215_49, ↓reduceIte, Option.toList, List.nil_append, List.cons_append, nI_add, pk_mul, n_and, n_or, n_xor, nI_leI, nI_ltI, nI_eq, n_z, uI_s, uI_n, bI_n0, bI_n1, bT, bF, if_true, if_false, not_true, not_false_eq_true, pk_div, pk_rem, Nat.reduceEqDiff, Nat.reduceLeDiff, Nat.reduceLT, Nat.reduceAdd, Nat.reduceMul, Nat.reduceSub, Nat.not_lt_zero, Nat.zero_le, reduceCtorEq, ite_self, n_rem, and_self, and_true, true_and, and_false, false_and, sp_w2, q1]
end RefE
