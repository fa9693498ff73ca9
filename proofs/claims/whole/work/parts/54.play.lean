/-! played: clause after clause -/
theorem and1023 (n : Nat) : n &&& 1023 = n % 1024 := Nat.and_two_pow_sub_one_eq_mod n 10
theorem cl_w {W F S : Nat} (hW : W ≤ 7) (hF : F < 1024) (hS : S < 1024) : (W + F * 64 + S * 65536) % 64 = W ∧ (W + F * 64 + S * 65536) / 64 % 1024 = F ∧ (W + F * 64 + S * 65536) / 65536 = S ∧ W + F * 64 + S * 65536 < 2 ^ 31 := by omega
def FrC (I1 I : Nat → Nat → Int32) : Prop := ∀ c k, (46 ≤ c ∧ c ≤ 68) ∨ 89 ≤ c → I1 c k = I c k
def FrM (I2 I : Nat → Nat → Int32) : Prop := (∀ c k, c ≤ 68 ∨ c = 92 ∨ c = 93 → I2 c k = I c k) ∧ ∀ k, k = 4 ∨ k = 5 ∨ k = 6 → I2 89 k = I 89 k
theorem FrC_t {I1 I2 I : Nat → Nat → Int32} (h2 : FrC I2 I1) (h1 : FrC I1 I) : FrC I2 I := fun c k hc => (h2 c k hc).trans (h1 c k hc)
theorem FrM_t {I1 I2 I : Nat → Nat → Int32} (h2 : FrM I2 I1) (h1 : FrM I1 I) : FrM I2 I := ⟨fun c k hc => (h2.1 c k hc).trans (h1.1 c k hc), fun k hk => (h2.2 k hk).trans (h1.2 k hk)⟩
theorem FrC_x {I1 I M : Nat → Nat → Int32} (h : FrC I1 I) (e : txI I = M) : txI I1 = M := (txI_c (fun c k hc => h c k (by omega))).trans e
theorem FrM_x {I1 I M : Nat → Nat → Int32} (h : FrM I1 I) (e : txI I = M) : txI I1 = M := (txI_c (fun c k hc => h.1 c k (by omega))).trans e
/-- one clause of a text, done -/
def PlS (sc : Sc) (d t k c x : Nat) (A B : Nat → Nat) (M : Nat → Nat → Int32) : Prop := ∃ (v : Int32) (A' B' : Nat → Nat), P2 v ∧ WW A' B' ∧ A' 2 ≤ A 2 ∧
  (∀ I J T u, CI I A B → txI I = M → ∃ I1, FrC I1 I ∧ CI I1 A' B' ∧ ∀ Q, Rn sc (d + 10) 120 23 [some (.ref 0), some (.int (nI t)), some (.ref (47 + 5 * t)), some (.int (nI k)), some (.int (nI c)), u] [] (K0, I, J, R1 T) Q = Rn sc (d + 10) 120 36 [some (.ref 0), some (.int (nI t)), some (.ref (47 + 5 * t)), some (.int (nI k)), some (.int (nI c)), some (.int v)] [] (K0, I1, J, R1 T) Q) ∧
  (∀ I J T, MI I A B → txI I = M → ∃ I2 J2, FrM I2 I ∧ MI I2 A' B' ∧ ∀ Q, Rn sc (d + 9) 248 0 [some (.ref 89), some (.int (nI x)), none, none] [] (K0, I, J, R1 T) Q = Q (some (.int v)) (K0, I2, J2, R1 T))
section Play
variable {sc : Sc} {d : Nat}
theorem sp_first {I : Nat → Nat → Int32} {J : Nat → Nat → Int64} {T : Option Nat} {c : Nat} {Q : Option Value → Mm → Prop} (h : c < 2 ^ 31) : Rn sc d 92 0 [some (.int (nI c))] [] (K0, I, J, R1 T) Q = Q (some (.int (nI (c / 64 % 1024)))) (K0, I, J, R1 T) := by
  simp (disch := first | assumption | omega | decide) only [x92_0, x92_1, x92_2, x92_3, x92_4, x92_5, n_shr h (show 6 < 32 by decide), n_and, and1023]
theorem sp_second {I : Nat → Nat → Int32} {J : Nat → Nat → Int64} {T : Option Nat} {c : Nat} {Q : Option Value → Mm → Prop} (h : c < 2 ^ 31) : Rn sc d 93 0 [some (.int (nI c))] [] (K0, I, J, R1 T) Q = Q (some (.int (nI (c / 65536)))) (K0, I, J, R1 T) := by
  simp (disch := first | assumption | omega | decide) only [x93_0, x93_1, x93_2, x93_3, n_shr h (show 16 < 32 by decide)]
theorem P2_01 {v : Int32} (h : P2 v) : v = 0 ∨ v = 1 := h
theorem pl_S {A B : Nat → Nat} {M : Nat → Nat → Int32} {t k c W F S x : Nat} (w : WW A B) (hX : TT TXp M A) (hW : W ≤ 7) (hx : x + 2 < 2724) (e1 : c % 64 = W) (e2 : c / 64 % 1024 = F) (e3 : c / 65536 = S) (hc : c < 2 ^ 31) (hF : F < 1024) (m0 : M 92 x = nI W) (m1 : 2 ≤ W → M 92 (x + 1) = nI F) (m2 : 2 ≤ W → W ≤ 6 → M 92 (x + 2) = nI S) : PlS sc d t k c x A B M := by
  have wA := w.1
  have w8 : A 8 ≤ 9999 := wA.1.2.2.2.2.2.2.2.2.1
  have g0 : ∀ I, txI I = M → ∀ k, I 92 k = M 92 k := fun I e k => by rw [← e, txI_g (by omega)]
  have hW' : W = 0 ∨ W = 1 ∨ W = 2 ∨ W = 3 ∨ W = 4 ∨ W = 5 ∨ W = 6 ∨ W = 7 := by omega
  rcases hW' with rfl | rfl | rfl | rfl | rfl | rfl | rfl | rfl
  · refine ⟨nI 1, A, B, Or.inr rfl, w, Nat.le_refl _, ?_, ?_⟩
    · intro I J T u hC eM
      refine ⟨I, fun _ _ _ => rfl, hC, fun Q => ?_⟩
      simp (disch := first | assumption | omega | decide) only [x120_23, x120_24, x120_25, x120_26, x120_27, x120_28, x120_29, x120_30, x120_31, x120_32, x120_33, x120_34, x120_35, x121_0, x121_1, x121_2, x121_3, x121_4, x121_5, x121_6, x121_7, x121_8_2, x121_8_3, x121_8_4, x121_8_5, x121_8_6, x121_8_d, x121_9, x121_10, x121_11, x121_12, x121_13, x121_14, x121_15, x121_16, x121_17, x121_18, x121_19, x121_20, x121_21, x121_22, x121_23, x121_24, x121_25, x121_26, x121_27, x121_28, x121_29, x121_30, x121_31, x121_32, x121_33, x121_34, x121_35, x121_36, x121_37, x121_38, x121_39, x121_40, x121_41, x121_42, x121_43, x121_44, x121_45, ↓reduceIte, Option.toList, List.nil_append, List.cons_append, nI_add, pk_mul, n_and, n_or, n_xor, nI_leI, nI_ltI, nI_eq, n_z, uI_s, uI_n, bI_n0, bI_n1, bT, bF, if_true, if_false, not_true, not_false_eq_true, pk_div, pk_rem, Nat.reduceEqDiff, Nat.reduceLeDiff, Nat.reduceLT, Nat.reduceAdd, Nat.reduceMul, Nat.reduceSub, Nat.not_lt_zero, Nat.zero_le, reduceCtorEq, ite_self, n_rem, and_self, and_true, true_and, and_false, false_and, sp_word, e1, sp_first hc, e2, sp_second hc, e3]
    · intro I J T hM eM
      refine ⟨I, J, ⟨fun _ _ _ => rfl, fun _ _ => rfl⟩, hM, fun Q => ?_⟩
      have g := g0 I eM
      simp (disch := first | assumption | omega | decide) only [x248_0, x248_1, x248_2, x248_3, x248_4, x248_5, x248_6, x248_7, x248_8, x248_9, x248_10, x248_11, x248_12, x248_13, x248_14, x248_15, x248_16, x248_17, x248_18_2, x248_18_3, x248_18_4, x248_18_5, x248_18_6, x248_18_7, x248_18_d, x248_19, x248_20, x248_21, x248_22, x248_23, x248_24, x248_25, x248_26, x248_27, x248_28, x248_29, x248_30, x248_31, x248_32, x248_33, x248_34, x248_35, x248_36, x248_37, x248_38, x248_39, x248_40, x248_41, x248_42, x248_43, x248_44, x248_45, x248_46, x248_47, x248_48, x248_49, x248_50, x248_51, x248_52, x248_53, x248_54, x248_55, x248_56, x248_57, ↓reduceIte, Option.toList, List.nil_append, List.cons_append, nI_add, pk_mul, n_and, n_or, n_xor, nI_leI, nI_ltI, nI_eq, n_z, uI_s, uI_n, bI_n0, bI_n1, bT, bF, if_true, if_false, not_true, not_false_eq_true, pk_div, pk_rem, Nat.reduceEqDiff, Nat.reduceLeDiff, Nat.reduceLT, Nat.reduceAdd, Nat.reduceMul, Nat.reduceSub, Nat.not_lt_zero, Nat.zero_le, reduceCtorEq, ite_self, n_rem, and_self, and_true, true_and, and_false, false_and, g, m0]
  · refine ⟨nI 1, A, B, Or.inr rfl, w, Nat.le_refl _, ?_, ?_⟩
    · intro I J T u hC eM
      refine ⟨I, fun _ _ _ => rfl, hC, fun Q => ?_⟩
      simp (disch := first | assumption | omega | decide) only [x120_23, x120_24, x120_25, x120_26, x120_27, x120_28, x120_29, x120_30, x120_31, x120_32, x120_33, x120_34, x120_35, x121_0, x121_1, x121_2, x121_3, x121_4, x121_5, x121_6, x121_7, x121_8_2, x121_8_3, x121_8_4, x121_8_5, x121_8_6, x121_8_d, x121_9, x121_10, x121_11, x121_12, x121_13, x121_14, x121_15, x121_16, x121_17, x121_18, x121_19, x121_20, x121_21, x121_22, x121_23, x121_24, x121_25, x121_26, x121_27, x121_28, x121_29, x121_30, x121_31, x121_32, x121_33, x121_34, x121_35, x121_36, x121_37, x121_38, x121_39, x121_40, x121_41, x121_42, x121_43, x121_44, x121_45, ↓reduceIte, Option.toList, List.nil_append, List.cons_append, nI_add, pk_mul, n_and, n_or, n_xor, nI_leI, nI_ltI, nI_eq, n_z, uI_s, uI_n, bI_n0, bI_n1, bT, bF, if_true, if_false, not_true, not_false_eq_true, pk_div, pk_rem, Nat.reduceEqDiff, Nat.reduceLeDiff, Nat.reduceLT, Nat.reduceAdd, Nat.reduceMul, Nat.reduceSub, Nat.not_lt_zero, Nat.zero_le, reduceCtorEq, ite_self, n_rem, and_self, and_true, true_and, and_false, false_and, sp_word, e1, sp_first hc, e2, sp_second hc, e3]
    · intro I J T hM eM
      refine ⟨I, J, ⟨fun _ _ _ => rfl, fun _ _ => rfl⟩, hM, fun Q => ?_⟩
      have g := g0 I eM
      simp (disch := first | assumption | omega | decide) only [x248_0, x248_1, x248_2, x248_3, x248_4, x248_5, x248_6, x248_7, x248_8, x248_9, x248_10, x248_11, x248_12, x248_13, x248_14, x248_15, x248_16, x248_17, x248_18_2, x248_18_3, x248_18_4, x248_18_5, x248_18_6, x248_18_7, x248_18_d, x248_19, x248_20, x248_21, x248_22, x248_23, x248_24, x248_25, x248_26, x248_27, x248_28, x248_29, x248_30, x248_31, x248_32, x248_33, x248_34, x248_35, x248_36, x248_37, x248_38, x248_39, x248_40, x248_41, x248_42, x248_43, x248_44, x248_45, x248_46, x248_47, x248_48, x248_49, x248_50, x248_51, x248_52, x248_53, x248_54, x248_55, x248_56, x248_57, ↓reduceIte, Option.toList, List.nil_append, List.cons_append, nI_add, pk_mul, n_and, n_or, n_xor, nI_leI, nI_ltI, nI_eq, n_z, uI_s, uI_n, bI_n0, bI_n1, bT, bF, if_true, if_false, not_true, not_false_eq_true, pk_div, pk_rem, Nat.reduceEqDiff, Nat.reduceLeDiff, Nat.reduceLT, Nat.reduceAdd, Nat.reduceMul, Nat.reduceSub, Nat.not_lt_zero, Nat.zero_le, reduceCtorEq, ite_self, n_rem, and_self, and_true, true_and, and_false, false_and, g, m0]
  · obtain ⟨v, A1, B1, hP, w1, l1, hC1, hM1⟩ := jp_road (sc := sc) (d := d + 5) (x := nI F) (y := nI S) A B M w hX
    rcases hP with rfl | ⟨n, hn, rfl⟩
    · refine ⟨nI 0, A1, B1, Or.inl rfl, w1, l1, ?_, ?_⟩
      · intro I J T u hC eM
        obtain ⟨I1, f1, c1, q1⟩ := hC1 I J T hC eM
        refine ⟨I1, f1, c1, fun Q => ?_⟩
        simp (disch := first | assumption | omega | decide) only [x120_23, x120_24, x120_25, x120_26, x120_27, x120_28, x120_29, x120_30, x120_31, x120_32, x120_33, x120_34, x120_35, x121_0, x121_1, x121_2, x121_3, x121_4, x121_5, x121_6, x121_7, x121_8_2, x121_8_3, x121_8_4, x121_8_5, x121_8_6, x121_8_d, x121_9, x121_10, x121_11, x121_12, x121_13, x121_14, x121_15, x121_16, x121_17, x121_18, x121_19, x121_20, x121_21, x121_22, x121_23, x121_24, x121_25, x121_26, x121_27, x121_28, x121_29, x121_30, x121_31, x121_32, x121_33, x121_34, x121_35, x121_36, x121_37, x121_38, x121_39, x121_40, x121_41, x121_42, x121_43, x121_44, x121_45, ↓reduceIte, Option.toList, List.nil_append, List.cons_append, nI_add, pk_mul, n_and, n_or, n_xor, nI_leI, nI_ltI, nI_eq, n_z, uI_s, uI_n, bI_n0, bI_n1, bT, bF, if_true, if_false, not_true, not_false_eq_true, pk_div, pk_rem, Nat.reduceEqDiff, Nat.reduceLeDiff, Nat.reduceLT, Nat.reduceAdd, Nat.reduceMul, Nat.reduceSub, Nat.not_lt_zero, Nat.zero_le, reduceCtorEq, ite_self, n_rem, and_self, and_true, true_and, and_false, false_and, sp_word, e1, sp_first hc, e2, sp_second hc, e3, q1]
      · intro I J T hM eM
        obtain ⟨I1, J1, f1, c1, q1⟩ := hM1 I J T hM eM
        refine ⟨I1, J1, f1, c1, fun Q => ?_⟩
        have g := g0 I eM
        simp (disch := first | assumption | omega | decide) only [x248_0, x248_1, x248_2, x248_3, x248_4, x248_5, x248_6, x248_7, x248_8, x248_9, x248_10, x248_11, x248_12, x248_13, x248_14, x248_15, x248_16, x248_17, x248_18_2, x248_18_3, x248_18_4, x248_18_5, x248_18_6, x248_18_7, x248_18_d, x248_19, x248_20, x248_21, x248_22, x248_23, x248_24, x248_25, x248_26, x248_27, x248_28, x248_29, x248_30, x248_31, x248_32, x248_33, x248_34, x248_35, x248_36, x248_37, x248_38, x248_39, x248_40, x248_41, x248_42, x248_43, x248_44, x248_45, x248_46, x248_47, x248_48, x248_49, x248_50, x248_51, x248_52, x248_53, x248_54, x248_55, x248_56, x248_57, ↓reduceIte, Option.toList, List.nil_append, List.cons_append, nI_add, pk_mul, n_and, n_or, n_xor, nI_leI, nI_ltI, nI_eq, n_z, uI_s, uI_n, bI_n0, bI_n1, bT, bF, if_true, if_false, not_true, not_false_eq_true, pk_div, pk_rem, Nat.reduceEqDiff, Nat.reduceLeDiff, Nat.reduceLT, Nat.reduceAdd, Nat.reduceMul, Nat.reduceSub, Nat.not_lt_zero, Nat.zero_le, reduceCtorEq, ite_self, n_rem, and_self, and_true, true_and, and_false, false_and, g, m0, m1, m2, q1, show ((-1 : Int32) < nI 0) = True from eq_true (by decide)]
    · refine ⟨nI 1, A1, B1, Or.inr rfl, w1, l1, ?_, ?_⟩
      · intro I J T u hC eM
        obtain ⟨I1, f1, c1, q1⟩ := hC1 I J T hC eM
        refine ⟨I1, f1, c1, fun Q => ?_⟩
        simp (disch := first | assumption | omega | decide) only [x120_23, x120_24, x120_25, x120_26, x120_27, x120_28, x120_29, x120_30, x120_31, x120_32, x120_33, x120_34, x120_35, x121_0, x121_1, x121_2, x121_3, x121_4, x121_5, x121_6, x121_7, x121_8_2, x121_8_3, x121_8_4, x121_8_5, x121_8_6, x121_8_d, x121_9, x121_10, x121_11, x121_12, x121_13, x121_14, x121_15, x121_16, x121_17, x121_18, x121_19, x121_20, x121_21, x121_22, x121_23, x121_24, x121_25, x121_26, x121_27, x121_28, x121_29, x121_30, x121_31, x121_32, x121_33, x121_34, x121_35, x121_36, x121_37, x121_38, x121_39, x121_40, x121_41, x121_42, x121_43, x121_44, x121_45, ↓reduceIte, Option.toList, List.nil_append, List.cons_append, nI_add, pk_mul, n_and, n_or, n_xor, nI_leI, nI_ltI, nI_eq, n_z, uI_s, uI_n, bI_n0, bI_n1, bT, bF, if_true, if_false, not_true, not_false_eq_true, pk_div, pk_rem, Nat.reduceEqDiff, Nat.reduceLeDiff, Nat.reduceLT, Nat.reduceAdd, Nat.reduceMul, Nat.reduceSub, Nat.not_lt_zero, Nat.zero_le, reduceCtorEq, ite_self, n_rem, and_self, and_true, true_and, and_false, false_and, sp_word, e1, sp_first hc, e2, sp_second hc, e3, q1, n_m1e hn]
      · intro I J T hM eM
        obtain ⟨I1, J1, f1, c1, q1⟩ := hM1 I J T hM eM
        refine ⟨I1, J1, f1, c1, fun Q => ?_⟩
        have g := g0 I eM
        simp (disch := first | assumption | omega | decide) only [x248_0, x248_1, x248_2, x248_3, x248_4, x248_5, x248_6, x248_7, x248_8, x248_9, x248_10, x248_11, x248_12, x248_13, x248_14, x248_15, x248_16, x248_17, x248_18_2, x248_18_3, x248_18_4, x248_18_5, x248_18_6, x248_18_7, x248_18_d, x248_19, x248_20, x248_21, x248_22, x248_23, x248_24, x248_25, x248_26, x248_27, x248_28, x248_29, x248_30, x248_31, x248_32, x248_33, x248_34, x248_35, x248_36, x248_37, x248_38, x248_39, x248_40, x248_41, x248_42, x248_43, x248_44, x248_45, x248_46, x248_47, x248_48, x248_49, x248_50, x248_51, x248_52, x248_53, x248_54, x248_55, x248_56, x248_57, ↓reduceIte, Option.toList, List.nil_append, List.cons_append, nI_add, pk_mul, n_and, n_or, n_xor, nI_leI, nI_ltI, nI_eq, n_z, uI_s, uI_n, bI_n0, bI_n1, bT, bF, if_true, if_false, not_true, not_false_eq_true, pk_div, pk_rem, Nat.reduceEqDiff, Nat.reduceLeDiff, Nat.reduceLT, Nat.reduceAdd, Nat.reduceMul, Nat.reduceSub, Nat.not_lt_zero, Nat.zero_le, reduceCtorEq, ite_self, n_rem, and_self, and_true, true_and, and_false, false_and, g, m0, m1, m2, q1, Nat.not_lt_zero]
  · obtain ⟨v, A1, B1, hP, w1, l1, hC1, hM1⟩ := jp_rumour (sc := sc) (d := d + 5) (x := nI F) (y := nI S) A B M w hX
    rcases hP with rfl | ⟨n, hn, rfl⟩
    · refine ⟨nI 0, A1, B1, Or.inl rfl, w1, l1, ?_, ?_⟩
      · intro I J T u hC eM
        obtain ⟨I1, f1, c1, q1⟩ := hC1 I J T hC eM
        refine ⟨I1, f1, c1, fun Q => ?_⟩
        simp (disch := first | assumption | omega | decide) only [x120_23, x120_24, x120_25, x120_26, x120_27, x120_28, x120_29, x120_30, x120_31, x120_32, x120_33, x120_34, x120_35, x121_0, x121_1, x121_2, x121_3, x121_4, x121_5, x121_6, x121_7, x121_8_2, x121_8_3, x121_8_4, x121_8_5, x121_8_6, x121_8_d, x121_9, x121_10, x121_11, x121_12, x121_13, x121_14, x121_15, x121_16, x121_17, x121_18, x121_19, x121_20, x121_21, x121_22, x121_23, x121_24, x121_25, x121_26, x121_27, x121_28, x121_29, x121_30, x121_31, x121_32, x121_33, x121_34, x121_35, x121_36, x121_37, x121_38, x121_39, x121_40, x121_41, x121_42, x121_43, x121_44, x121_45, ↓reduceIte, Option.toList, List.nil_append, List.cons_append, nI_add, pk_mul, n_and, n_or, n_xor, nI_leI, nI_ltI, nI_eq, n_z, uI_s, uI_n, bI_n0, bI_n1, bT, bF, if_true, if_false, not_true, not_false_eq_true, pk_div, pk_rem, Nat.reduceEqDiff, Nat.reduceLeDiff, Nat.reduceLT, Nat.reduceAdd, Nat.reduceMul, Nat.reduceSub, Nat.not_lt_zero, Nat.zero_le, reduceCtorEq, ite_self, n_rem, and_self, and_true, true_and, and_false, false_and, sp_word, e1, sp_first hc, e2, sp_second hc, e3, q1]
      · intro I J T hM eM
        obtain ⟨I1, J1, f1, c1, q1⟩ := hM1 I J T hM eM
        refine ⟨I1, J1, f1, c1, fun Q => ?_⟩
        have g := g0 I eM
        simp (disch := first | assumption | omega | decide) only [x248_0, x248_1, x248_2, x248_3, x248_4, x248_5, x248_6, x248_7, x248_8, x248_9, x248_10, x248_11, x248_12, x248_13, x248_14, x248_15, x248_16, x248_17, x248_18_2, x248_18_3, x248_18_4, x248_18_5, x248_18_6, x248_18_7, x248_18_d, x248_19, x248_20, x248_21, x248_22, x248_23, x248_24, x248_25, x248_26, x248_27, x248_28, x248_29, x248_30, x248_31, x248_32, x248_33, x248_34, x248_35, x248_36, x248_37, x248_38, x248_39, x248_40, x248_41, x248_42, x248_43, x248_44, x248_45, x248_46, x248_47, x248_48, x248_49, x248_50, x248_51, x248_52, x248_53, x248_54, x248_55, x248_56, x248_57, ↓reduceIte, Option.toList, List.nil_append, List.cons_append, nI_add, pk_mul, n_and, n_or, n_xor, nI_leI, nI_ltI, nI_eq, n_z, uI_s, uI_n, bI_n0, bI_n1, bT, bF, if_true, if_false, not_true, not_false_eq_true, pk_div, pk_rem, Nat.reduceEqDiff, Nat.reduceLeDiff, Nat.reduceLT, Nat.reduceAdd, Nat.reduceMul, Nat.reduceSub, Nat.not_lt_zero, Nat.zero_le, reduceCtorEq, ite_self, n_rem, and_self, and_true, true_and, and_false, false_and, g, m0, m1, m2, q1, show ((-1 : Int32) < nI 0) = True from eq_true (by decide)]
    · refine ⟨nI 1, A1, B1, Or.inr rfl, w1, l1, ?_, ?_⟩
      · intro I J T u hC eM
        obtain ⟨I1, f1, c1, q1⟩ := hC1 I J T hC eM
        refine ⟨I1, f1, c1, fun Q => ?_⟩
        simp (disch := first | assumption | omega | decide) only [x120_23, x120_24, x120_25, x120_26, x120_27, x120_28, x120_29, x120_30, x120_31, x120_32, x120_33, x120_34, x120_35, x121_0, x121_1, x121_2, x121_3, x121_4, x121_5, x121_6, x121_7, x121_8_2, x121_8_3, x121_8_4, x121_8_5, x121_8_6, x121_8_d, x121_9, x121_10, x121_11, x121_12, x121_13, x121_14, x121_15, x121_16, x121_17, x121_18, x121_19, x121_20, x121_21, x121_22, x121_23, x121_24, x121_25, x121_26, x121_27, x121_28, x121_29, x121_30, x121_31, x121_32, x121_33, x121_34, x121_35, x121_36, x121_37, x121_38, x121_39, x121_40, x121_41, x121_42, x121_43, x121_44, x121_45, ↓reduceIte, Option.toList, List.nil_append, List.cons_append, nI_add, pk_mul, n_and, n_or, n_xor, nI_leI, nI_ltI, nI_eq, n_z, uI_s, uI_n, bI_n0, bI_n1, bT, bF, if_true, if_false, not_true, not_false_eq_true, pk_div, pk_rem, Nat.reduceEqDiff, Nat.reduceLeDiff, Nat.reduceLT, Nat.reduceAdd, Nat.reduceMul, Nat.reduceSub, Nat.not_lt_zero, Nat.zero_le, reduceCtorEq, ite_self, n_rem, and_self, and_true, true_and, and_false, false_and, sp_word, e1, sp_first hc, e2, sp_second hc, e3, q1, n_m1e hn]
      · intro I J T hM eM
        obtain ⟨I1, J1, f1, c1, q1⟩ := hM1 I J T hM eM
        refine ⟨I1, J1, f1, c1, fun Q => ?_⟩
        have g := g0 I eM
        simp (disch := first | assumption | omega | decide) only [x248_0, x248_1, x248_2, x248_3, x248_4, x248_5, x248_6, x248_7, x248_8, x248_9, x248_10, x248_11, x248_12, x248_13, x248_14, x248_15, x248_16, x248_17, x248_18_2, x248_18_3, x248_18_4, x248_18_5, x248_18_6, x248_18_7, x248_18_d, x248_19, x248_20, x248_21, x248_22, x248_23, x248_24, x248_25, x248_26, x248_27, x248_28, x248_29, x248_30, x248_31, x248_32, x248_33, x248_34, x248_35, x248_36, x248_37, x248_38, x248_39, x248_40, x248_41, x248_42, x248_43, x248_44, x248_45, x248_46, x248_47, x248_48, x248_49, x248_50, x248_51, x248_52, x248_53, x248_54, x248_55, x248_56, x248_57, ↓reduceIte, Option.toList, List.nil_append, List.cons_append, nI_add, pk_mul, n_and, n_or, n_xor, nI_leI, nI_ltI, nI_eq, n_z, uI_s, uI_n, bI_n0, bI_n1, bT, bF, if_true, if_false, not_true, not_false_eq_true, pk_div, pk_rem, Nat.reduceEqDiff, Nat.reduceLeDiff, Nat.reduceLT, Nat.reduceAdd, Nat.reduceMul, Nat.reduceSub, Nat.not_lt_zero, Nat.zero_le, reduceCtorEq, ite_self, n_rem, and_self, and_true, true_and, and_false, false_and, g, m0, m1, m2, q1, Nat.not_lt_zero]
  · obtain ⟨v, A1, B1, hP, w1, l1, hC1, hM1⟩ := jp_rooms (sc := sc) (d := d + 5) (x := nI S) (y := nI F) A B M w hX
    have hz := P2_01 hP
    refine ⟨v, A1, B1, hP, w1, l1, ?_, ?_⟩
    · intro I J T u hC eM
      obtain ⟨I1, f1, c1, q1⟩ := hC1 I J T hC eM
      refine ⟨I1, f1, c1, fun Q => ?_⟩
      simp (disch := first | assumption | omega | decide) only [x120_23, x120_24, x120_25, x120_26, x120_27, x120_28, x120_29, x120_30, x120_31, x120_32, x120_33, x120_34, x120_35, x121_0, x121_1, x121_2, x121_3, x121_4, x121_5, x121_6, x121_7, x121_8_2, x121_8_3, x121_8_4, x121_8_5, x121_8_6, x121_8_d, x121_9, x121_10, x121_11, x121_12, x121_13, x121_14, x121_15, x121_16, x121_17, x121_18, x121_19, x121_20, x121_21, x121_22, x121_23, x121_24, x121_25, x121_26, x121_27, x121_28, x121_29, x121_30, x121_31, x121_32, x121_33, x121_34, x121_35, x121_36, x121_37, x121_38, x121_39, x121_40, x121_41, x121_42, x121_43, x121_44, x121_45, ↓reduceIte, Option.toList, List.nil_append, List.cons_append, nI_add, pk_mul, n_and, n_or, n_xor, nI_leI, nI_ltI, nI_eq, n_z, uI_s, uI_n, bI_n0, bI_n1, bT, bF, if_true, if_false, not_true, not_false_eq_true, pk_div, pk_rem, Nat.reduceEqDiff, Nat.reduceLeDiff, Nat.reduceLT, Nat.reduceAdd, Nat.reduceMul, Nat.reduceSub, Nat.not_lt_zero, Nat.zero_le, reduceCtorEq, ite_self, n_rem, and_self, and_true, true_and, and_false, false_and, sp_word, e1, sp_first hc, e2, sp_second hc, e3, q1]
    · intro I J T hM eM
      obtain ⟨I1, J1, f1, c1, q1⟩ := hM1 I J T hM eM
      refine ⟨I1, J1, f1, c1, fun Q => ?_⟩
      have g := g0 I eM
      simp (disch := first | assumption | omega | decide) only [x248_0, x248_1, x248_2, x248_3, x248_4, x248_5, x248_6, x248_7, x248_8, x248_9, x248_10, x248_11, x248_12, x248_13, x248_14, x248_15, x248_16, x248_17, x248_18_2, x248_18_3, x248_18_4, x248_18_5, x248_18_6, x248_18_7, x248_18_d, x248_19, x248_20, x248_21, x248_22, x248_23, x248_24, x248_25, x248_26, x248_27, x248_28, x248_29, x248_30, x248_31, x248_32, x248_33, x248_34, x248_35, x248_36, x248_37, x248_38, x248_39, x248_40, x248_41, x248_42, x248_43, x248_44, x248_45, x248_46, x248_47, x248_48, x248_49, x248_50, x248_51, x248_52, x248_53, x248_54, x248_55, x248_56, x248_57, ↓reduceIte, Option.toList, List.nil_append, List.cons_append, nI_add, pk_mul, n_and, n_or, n_xor, nI_leI, nI_ltI, nI_eq, n_z, uI_s, uI_n, bI_n0, bI_n1, bT, bF, if_true, if_false, not_true, not_false_eq_true, pk_div, pk_rem, Nat.reduceEqDiff, Nat.reduceLeDiff, Nat.reduceLT, Nat.reduceAdd, Nat.reduceMul, Nat.reduceSub, Nat.not_lt_zero, Nat.zero_le, reduceCtorEq, ite_self, n_rem, and_self, and_true, true_and, and_false, false_and, g, m0, m1, m2, q1]
  · obtain ⟨v, A1, B1, hP, w1, l1, hC1, hM1⟩ := jp_tell (sc := sc) (d := d + 0) (x := nI F) (y := nI S) A B M w hX
    have hz := P2_01 hP
    refine ⟨v, A1, B1, hP, w1, l1, ?_, ?_⟩
    · intro I J T u hC eM
      obtain ⟨I1, f1, c1, q1⟩ := hC1 I J T hC eM
      refine ⟨I1, f1, c1, fun Q => ?_⟩
      simp (disch := first | assumption | omega | decide) only [x120_23, x120_24, x120_25, x120_26, x120_27, x120_28, x120_29, x120_30, x120_31, x120_32, x120_33, x120_34, x120_35, x121_0, x121_1, x121_2, x121_3, x121_4, x121_5, x121_6, x121_7, x121_8_2, x121_8_3, x121_8_4, x121_8_5, x121_8_6, x121_8_d, x121_9, x121_10, x121_11, x121_12, x121_13, x121_14, x121_15, x121_16, x121_17, x121_18, x121_19, x121_20, x121_21, x121_22, x121_23, x121_24, x121_25, x121_26, x121_27, x121_28, x121_29, x121_30, x121_31, x121_32, x121_33, x121_34, x121_35, x121_36, x121_37, x121_38, x121_39, x121_40, x121_41, x121_42, x121_43, x121_44, x121_45, ↓reduceIte, Option.toList, List.nil_append, List.cons_append, nI_add, pk_mul, n_and, n_or, n_xor, nI_leI, nI_ltI, nI_eq, n_z, uI_s, uI_n, bI_n0, bI_n1, bT, bF, if_true, if_false, not_true, not_false_eq_true, pk_div, pk_rem, Nat.reduceEqDiff, Nat.reduceLeDiff, Nat.reduceLT, Nat.reduceAdd, Nat.reduceMul, Nat.reduceSub, Nat.not_lt_zero, Nat.zero_le, reduceCtorEq, ite_self, n_rem, and_self, and_true, true_and, and_false, false_and, sp_word, e1, sp_first hc, e2, sp_second hc, e3, q1]
    · intro I J T hM eM
      obtain ⟨I1, J1, f1, c1, q1⟩ := hM1 I J T hM eM
      refine ⟨I1, J1, f1, c1, fun Q => ?_⟩
      have g := g0 I eM
      simp (disch := first | assumption | omega | decide) only [x248_0, x248_1, x248_2, x248_3, x248_4, x248_5, x248_6, x248_7, x248_8, x248_9, x248_10, x248_11, x248_12, x248_13, x248_14, x248_15, x248_16, x248_17, x248_18_2, x248_18_3, x248_18_4, x248_18_5, x248_18_6, x248_18_7, x248_18_d, x248_19, x248_20, x248_21, x248_22, x248_23, x248_24, x248_25, x248_26, x248_27, x248_28, x248_29, x248_30, x248_31, x248_32, x248_33, x248_34, x248_35, x248_36, x248_37, x248_38, x248_39, x248_40, x248_41, x248_42, x248_43, x248_44, x248_45, x248_46, x248_47, x248_48, x248_49, x248_50, x248_51, x248_52, x248_53, x248_54, x248_55, x248_56, x248_57, ↓reduceIte, Option.toList, List.nil_append, List.cons_append, nI_add, pk_mul, n_and, n_or, n_xor, nI_leI, nI_ltI, nI_eq, n_z, uI_s, uI_n, bI_n0, bI_n1, bT, bF, if_true, if_false, not_true, not_false_eq_true, pk_div, pk_rem, Nat.reduceEqDiff, Nat.reduceLeDiff, Nat.reduceLT, Nat.reduceAdd, Nat.reduceMul, Nat.reduceSub, Nat.not_lt_zero, Nat.zero_le, reduceCtorEq, ite_self, n_rem, and_self, and_true, true_and, and_false, false_and, g, m0, m1, m2, q1]
  · obtain ⟨v, A1, B1, hP, w1, l1, hC1, hM1⟩ := jp_hush (sc := sc) (d := d + 3) (x := nI F) (y := nI S) A B M w hX
    have hz := P2_01 hP
    refine ⟨v, A1, B1, hP, w1, l1, ?_, ?_⟩
    · intro I J T u hC eM
      obtain ⟨I1, f1, c1, q1⟩ := hC1 I J T hC eM
      refine ⟨I1, f1, c1, fun Q => ?_⟩
      simp (disch := first | assumption | omega | decide) only [x120_23, x120_24, x120_25, x120_26, x120_27, x120_28, x120_29, x120_30, x120_31, x120_32, x120_33, x120_34, x120_35, x121_0, x121_1, x121_2, x121_3, x121_4, x121_5, x121_6, x121_7, x121_8_2, x121_8_3, x121_8_4, x121_8_5, x121_8_6, x121_8_d, x121_9, x121_10, x121_11, x121_12, x121_13, x121_14, x121_15, x121_16, x121_17, x121_18, x121_19, x121_20, x121_21, x121_22, x121_23, x121_24, x121_25, x121_26, x121_27, x121_28, x121_29, x121_30, x121_31, x121_32, x121_33, x121_34, x121_35, x121_36, x121_37, x121_38, x121_39, x121_40, x121_41, x121_42, x121_43, x121_44, x121_45, ↓reduceIte, Option.toList, List.nil_append, List.cons_append, nI_add, pk_mul, n_and, n_or, n_xor, nI_leI, nI_ltI, nI_eq, n_z, uI_s, uI_n, bI_n0, bI_n1, bT, bF, if_true, if_false, not_true, not_false_eq_true, pk_div, pk_rem, Nat.reduceEqDiff, Nat.reduceLeDiff, Nat.reduceLT, Nat.reduceAdd, Nat.reduceMul, Nat.reduceSub, Nat.not_lt_zero, Nat.zero_le, reduceCtorEq, ite_self, n_rem, and_self, and_true, true_and, and_false, false_and, sp_word, e1, sp_first hc, e2, sp_second hc, e3, q1]
    · intro I J T hM eM
      obtain ⟨I1, J1, f1, c1, q1⟩ := hM1 I J T hM eM
      refine ⟨I1, J1, f1, c1, fun Q => ?_⟩
      have g := g0 I eM
      simp (disch := first | assumption | omega | decide) only [x248_0, x248_1, x248_2, x248_3, x248_4, x248_5, x248_6, x248_7, x248_8, x248_9, x248_10, x248_11, x248_12, x248_13, x248_14, x248_15, x248_16, x248_17, x248_18_2, x248_18_3, x248_18_4, x248_18_5, x248_18_6, x248_18_7, x248_18_d, x248_19, x248_20, x248_21, x248_22, x248_23, x248_24, x248_25, x248_26, x248_27, x248_28, x248_29, x248_30, x248_31, x248_32, x248_33, x248_34, x248_35, x248_36, x248_37, x248_38, x248_39, x248_40, x248_41, x248_42, x248_43, x248_44, x248_45, x248_46, x248_47, x248_48, x248_49, x248_50, x248_51, x248_52, x248_53, x248_54, x248_55, x248_56, x248_57, ↓reduceIte, Option.toList, List.nil_append, List.cons_append, nI_add, pk_mul, n_and, n_or, n_xor, nI_leI, nI_ltI, nI_eq, n_z, uI_s, uI_n, bI_n0, bI_n1, bT, bF, if_true, if_false, not_true, not_false_eq_true, pk_div, pk_rem, Nat.reduceEqDiff, Nat.reduceLeDiff, Nat.reduceLT, Nat.reduceAdd, Nat.reduceMul, Nat.reduceSub, Nat.not_lt_zero, Nat.zero_le, reduceCtorEq, ite_self, n_rem, and_self, and_true, true_and, and_false, false_and, g, m0, m1, m2, q1]
  · obtain ⟨f, hF', hFM⟩ := bel_ex (law_ok wA hX)
    obtain ⟨g, hC', hM', hg⟩ := rnt_ex (law_ok wA hX)
    have hg' : gB g := hg
    have hm : A 8 + dyM A F ≤ 9999 := by
      unfold dyM
      split <;> omega
    obtain ⟨wn', en, kn, bn⟩ := dyN_inv (f := f) hg' wA (dyM A F) hm
    have f2 : dyN f g A (dyM A F) 2 = A 2 := kn 2 (by omega)
    have hP : P2 (if A 8 + F ≤ 9999 then nI 1 else nI 0) := by
      split
      · exact Or.inr rfl
      · exact Or.inl rfl
    obtain ⟨v, ev⟩ : ∃ v, v = (if A 8 + F ≤ 9999 then nI 1 else nI 0) := ⟨_, rfl⟩
    rw [← ev] at hP
    refine ⟨v, dyN f g A (dyM A F), B, hP, WW_dy hg' w hm, by omega, ?_, ?_⟩
    · intro I J T u hC eM
      obtain ⟨I1, c1, f1, q1⟩ := sp_daysC (sc := sc) (d := d + 2) (J := J) (T := T) (n := F) hF' hC' hg' w hC eM rfl hF
      rw [← ev] at q1
      refine ⟨I1, f1, c1, fun Q => ?_⟩
      simp (disch := first | assumption | omega | decide) only [x120_23, x120_24, x120_25, x120_26, x120_27, x120_28, x120_29, x120_30, x120_31, x120_32, x120_33, x120_34, x120_35, ↓reduceIte, Option.toList, List.nil_append, List.cons_append, nI_add, pk_mul, n_and, n_or, n_xor, nI_leI, nI_ltI, nI_eq, n_z, uI_s, uI_n, bI_n0, bI_n1, bT, bF, if_true, if_false, not_true, not_false_eq_true, pk_div, pk_rem, Nat.reduceEqDiff, Nat.reduceLeDiff, Nat.reduceLT, Nat.reduceAdd, Nat.reduceMul, Nat.reduceSub, Nat.not_lt_zero, Nat.zero_le, reduceCtorEq, ite_self, n_rem, and_self, and_true, true_and, and_false, false_and, sp_word, e1, sp_first hc, e2, q1]
    · intro I J T hM eM
      obtain ⟨I1, J1, c1, f1, r1, q1⟩ := sp_daysM (sc := sc) (d := d) (J := J) (T := T) (n := F) hFM hM' hg' w hM eM rfl hF
      rw [← ev] at q1
      refine ⟨I1, J1, ⟨fun c k hc => f1 c k (by omega), fun k hk => f1 _ _ (by omega)⟩, c1, fun Q => ?_⟩
      have g := g0 I eM
      have hz := P2_01 hP
      simp (disch := first | assumption | omega | decide) only [x248_0, x248_1, x248_2, x248_3, x248_4, x248_5, x248_6, x248_7, x248_8, x248_9, x248_10, x248_11, x248_12, x248_13, x248_14, x248_15, x248_16, x248_17, x248_18_2, x248_18_3, x248_18_4, x248_18_5, x248_18_6, x248_18_7, x248_18_d, x248_19, x248_20, x248_21, x248_22, x248_23, x248_24, x248_25, x248_26, x248_27, x248_28, x248_29, x248_30, x248_31, x248_32, x248_33, x248_34, x248_35, x248_36, x248_37, x248_38, x248_39, x248_40, x248_41, x248_42, x248_43, x248_44, x248_45, x248_46, x248_47, x248_48, x248_49, x248_50, x248_51, x248_52, x248_53, x248_54, x248_55, x248_56, x248_57, ↓reduceIte, Option.toList, List.nil_append, List.cons_append, nI_add, pk_mul, n_and, n_or, n_xor, nI_leI, nI_ltI, nI_eq, n_z, uI_s, uI_n, bI_n0, bI_n1, bT, bF, if_true, if_false, not_true, not_false_eq_true, pk_div, pk_rem, Nat.reduceEqDiff, Nat.reduceLeDiff, Nat.reduceLT, Nat.reduceAdd, Nat.reduceMul, Nat.reduceSub, Nat.not_lt_zero, Nat.zero_le, reduceCtorEq, ite_self, n_rem, and_self, and_true, true_and, and_false, false_and, g, m0, m1, q1]
/-- from the k-th clause on -/
def PlJ (sc : Sc) (d t k : Nat) (A B : Nat → Nat) (M : Nat → Nat → Int32) : Prop := ∃ (v : Int32) (A' B' : Nat → Nat), WW A' B' ∧ A' 2 ≤ A 2 ∧
  (∀ I J T u4 u5, CI I A B → txI I = M → ∃ I1, FrC I1 I ∧ CI I1 A' B' ∧ ∀ Q, Rn sc (d + 10) 120 14 [some (.ref 0), some (.int (nI t)), some (.ref (47 + 5 * t)), some (.int (nI k)), u4, u5] [] (K0, I, J, R1 T) Q = Q (some (.int v)) (K0, I1, J, R1 T)) ∧
  (∀ I J T, MI I A B → txI I = M → ∃ I2 J2, FrM I2 I ∧ MI I2 A' B' ∧ ∀ Q, Rn sc (d + 10) 249 14 [some (.ref 89), some (.int (nI t)), some (.int (nI k))] [] (K0, I, J, R1 T) Q = Q (some (.int v)) (K0, I2, J2, R1 T))
theorem pl_J {M : Nat → Nat → Int32} {t n : Nat} {W F S : Nat → Nat} (ht : t < 4) (hn : n ≤ 24) (e0 : M (47 + 5 * t) 3 = nI n) (e1 : M 92 (681 * t) = nI n) (hk : ∀ k, k < n → W k ≤ 7 ∧ F k < 1024 ∧ S k < 1024 ∧ M (49 + 5 * t) k = nI (W k + F k * 64 + S k * 65536) ∧ M 92 (681 * t + 1 + 3 * k) = nI (W k) ∧ (2 ≤ W k → M 92 (681 * t + 1 + 3 * k + 1) = nI (F k)) ∧ (2 ≤ W k → W k ≤ 6 → M 92 (681 * t + 1 + 3 * k + 2) = nI (S k)) ∧ (W k = 7 → F k ≤ 60)) : ∀ (m k : Nat), k + m = n → ∀ A B, WW A B → TT TXp M A → PlJ sc d t k A B M := by
  intro m
  induction m with
  | zero =>
    intro k hkn A B w hX
    obtain rfl : k = n := by omega
    refine ⟨-1, A, B, w, Nat.le_refl _, ?_, ?_⟩
    · intro I J T u4 u5 hC eM
      have g : ∀ c k, (46 ≤ c ∧ c ≤ 66) ∨ c = 92 → I c k = M c k := fun c k hc => by rw [← eM, txI_g hc]
      refine ⟨I, fun _ _ _ => rfl, hC, fun Q => ?_⟩
      rw [x120_14]
      simp (disch := first | assumption | omega | decide) only [x120_15r, x120_15n, x120_17, x120_18r, x120_18n, x120_19, x120_20, x120_21, x120_22, x120_23, x120_24, x120_25, x120_26, x120_27, x120_28, x120_29, x120_30, x120_31, x120_32, x120_33, x120_34, x120_35, x120_36, x120_37, x120_38, x120_39, x120_40, x120_41, x120_42, x120_43, x120_16 (kd_t ht), g _ 3 (show (46 ≤ 47 + 5 * t ∧ 47 + 5 * t ≤ 66) ∨ 47 + 5 * t = 92 by omega), e0, ↓reduceIte, Option.toList, List.nil_append, List.cons_append, nI_add, pk_mul, n_and, n_or, n_xor, nI_leI, nI_ltI, nI_eq, n_z, uI_s, uI_n, bI_n0, bI_n1, bT, bF, if_true, if_false, not_true, not_false_eq_true, pk_div, pk_rem, Nat.reduceEqDiff, Nat.reduceLeDiff, Nat.reduceLT, Nat.reduceAdd, Nat.reduceMul, Nat.reduceSub, Nat.not_lt_zero, Nat.zero_le, reduceCtorEq, ite_self, n_rem, and_self, and_true, true_and, and_false, false_and, Nat.le_refl]
    · intro I J T hM eM
      have g : ∀ k, I 92 k = M 92 k := fun k => by rw [← eM, txI_g (by omega)]
      refine ⟨I, J, ⟨fun _ _ _ => rfl, fun _ _ => rfl⟩, hM, fun Q => ?_⟩
      rw [x249_14]
      simp (disch := first | assumption | omega | decide) only [x249_0, x249_1, x249_2, x249_3, x249_4, x249_5, x249_6, x249_7, x249_8, x249_9, x249_10, x249_11, x249_12, x249_13, x249_15, x249_16, x249_17, x249_18, x249_19, x249_20, x249_21, x249_22, x249_23, x249_24, x249_25, x249_26, x249_27, x249_28, x249_29, x249_30, x249_31, x249_32, x249_33, x249_34, x249_35, x249_36, x249_37, x249_38, x249_39, g, e1, ↓reduceIte, Option.toList, List.nil_append, List.cons_append, nI_add, pk_mul, n_and, n_or, n_xor, nI_leI, nI_ltI, nI_eq, n_z, uI_s, uI_n, bI_n0, bI_n1, bT, bF, if_true, if_false, not_true, not_false_eq_true, pk_div, pk_rem, Nat.reduceEqDiff, Nat.reduceLeDiff, Nat.reduceLT, Nat.reduceAdd, Nat.reduceMul, Nat.reduceSub, Nat.not_lt_zero, Nat.zero_le, reduceCtorEq, ite_self, n_rem, and_self, and_true, true_and, and_false, false_and, Nat.le_refl]
  | succ m ih =>
    intro k hkn A B w hX
    have hkn' : k < n := by omega
    have hl : ¬ n ≤ k := by omega
    obtain ⟨k1, k2, k3, k4, k5, k6, k7, k8⟩ := hk k hkn'
    obtain ⟨b1, b2, b3, b4⟩ := cl_w k1 k2 k3
    obtain ⟨c, ec⟩ : ∃ c, c = W k + F k * 64 + S k * 65536 := ⟨_, rfl⟩
    rw [← ec] at b1 b2 b3 b4 k4
    obtain ⟨v, A1, B1, hP, w1, l1, hC1, hM1⟩ := pl_S (sc := sc) (d := d) (t := t) (k := k) (x := 681 * t + 1 + 3 * k) w hX k1 (by omega) b1 b2 b3 b4 k2 k5 k6 k7
    rcases hP with rfl | rfl
    · refine ⟨nI k, A1, B1, w1, l1, ?_, ?_⟩
      · intro I J T u4 u5 hC eM
        have g : ∀ c k, (46 ≤ c ∧ c ≤ 66) ∨ c = 92 → I c k = M c k := fun c k hc => by rw [← eM, txI_g hc]
        obtain ⟨I1, f1, c1, q1⟩ := hC1 I J T u5 hC eM
        refine ⟨I1, f1, c1, fun Q => ?_⟩
        rw [x120_14]
        simp (disch := first | assumption | omega | decide) only [x120_15r, x120_15n, x120_17, x120_18r, x120_18n, x120_20, x120_22, x120_16 (kd_t ht), x120_19 (kd_t ht), vr_2 ht, x120_21 (a := 49 + 5 * t) (n := 24) (by omega) (kd_s ht), g _ 3 (show (46 ≤ 47 + 5 * t ∧ 47 + 5 * t ≤ 66) ∨ 47 + 5 * t = 92 by omega), g _ k (show (46 ≤ 49 + 5 * t ∧ 49 + 5 * t ≤ 66) ∨ 49 + 5 * t = 92 by omega), e0, k4, ↓reduceIte, Option.toList, List.nil_append, List.cons_append, nI_add, pk_mul, n_and, n_or, n_xor, nI_leI, nI_ltI, nI_eq, n_z, uI_s, uI_n, bI_n0, bI_n1, bT, bF, if_true, if_false, not_true, not_false_eq_true, pk_div, pk_rem, Nat.reduceEqDiff, Nat.reduceLeDiff, Nat.reduceLT, Nat.reduceAdd, Nat.reduceMul, Nat.reduceSub, Nat.not_lt_zero, Nat.zero_le, reduceCtorEq, ite_self, n_rem, and_self, and_true, true_and, and_false, false_and, hl, q1]
        simp (disch := first | assumption | omega | decide) only [x120_36, x120_37, x120_38, x120_39, ↓reduceIte, Option.toList, List.nil_append, List.cons_append, nI_add, pk_mul, n_and, n_or, n_xor, nI_leI, nI_ltI, nI_eq, n_z, uI_s, uI_n, bI_n0, bI_n1, bT, bF, if_true, if_false, not_true, not_false_eq_true, pk_div, pk_rem, Nat.reduceEqDiff, Nat.reduceLeDiff, Nat.reduceLT, Nat.reduceAdd, Nat.reduceMul, Nat.reduceSub, Nat.not_lt_zero, Nat.zero_le, reduceCtorEq, ite_self, n_rem, and_self, and_true, true_and, and_false, false_and]
      · intro I J T hM eM
        have g : ∀ k, I 92 k = M 92 k := fun k => by rw [← eM, txI_g (by omega)]
        obtain ⟨I1, J1, f1, c1, q1⟩ := hM1 I J T hM eM
        refine ⟨I1, J1, f1, c1, fun Q => ?_⟩
        rw [x249_14]
        simp (disch := first | assumption | omega | decide) only [x249_0, x249_1, x249_2, x249_3, x249_4, x249_5, x249_6, x249_7, x249_8, x249_9, x249_10, x249_11, x249_12, x249_13, x249_15, x249_16, x249_17, x249_18, x249_19, x249_20, x249_21, x249_22, x249_23, x249_24, x249_25, x249_26, x249_27, x249_28, x249_29, x249_30, x249_31, x249_32, x249_33, x249_34, x249_35, x249_36, x249_37, x249_38, x249_39, g, e1, ↓reduceIte, Option.toList, List.nil_append, List.cons_append, nI_add, pk_mul, n_and, n_or, n_xor, nI_leI, nI_ltI, nI_eq, n_z, uI_s, uI_n, bI_n0, bI_n1, bT, bF, if_true, if_false, not_true, not_false_eq_true, pk_div, pk_rem, Nat.reduceEqDiff, Nat.reduceLeDiff, Nat.reduceLT, Nat.reduceAdd, Nat.reduceMul, Nat.reduceSub, Nat.not_lt_zero, Nat.zero_le, reduceCtorEq, ite_self, n_rem, and_self, and_true, true_and, and_false, false_and, hl, q1]
    · obtain ⟨v2, A2, B2, w2, l2, hC2, hM2⟩ := ih (k + 1) (by omega) A1 B1 w1 (fun t ht => hX t (by omega))
      refine ⟨v2, A2, B2, w2, by omega, ?_, ?_⟩
      · intro I J T u4 u5 hC eM
        have g : ∀ c k, (46 ≤ c ∧ c ≤ 66) ∨ c = 92 → I c k = M c k := fun c k hc => by rw [← eM, txI_g hc]
        obtain ⟨I1, f1, c1, q1⟩ := hC1 I J T u5 hC eM
        obtain ⟨I2, f2, c2, q2⟩ := hC2 I1 J T (some (.int (nI c))) (some (.int (nI 1))) c1 (FrC_x f1 eM)
        refine ⟨I2, FrC_t f2 f1, c2, fun Q => ?_⟩
        rw [x120_14]
        simp (disch := first | assumption | omega | decide) only [x120_15r, x120_15n, x120_17, x120_18r, x120_18n, x120_20, x120_22, x120_16 (kd_t ht), x120_19 (kd_t ht), vr_2 ht, x120_21 (a := 49 + 5 * t) (n := 24) (by omega) (kd_s ht), g _ 3 (show (46 ≤ 47 + 5 * t ∧ 47 + 5 * t ≤ 66) ∨ 47 + 5 * t = 92 by omega), g _ k (show (46 ≤ 49 + 5 * t ∧ 49 + 5 * t ≤ 66) ∨ 49 + 5 * t = 92 by omega), e0, k4, ↓reduceIte, Option.toList, List.nil_append, List.cons_append, nI_add, pk_mul, n_and, n_or, n_xor, nI_leI, nI_ltI, nI_eq, n_z, uI_s, uI_n, bI_n0, bI_n1, bT, bF, if_true, if_false, not_true, not_false_eq_true, pk_div, pk_rem, Nat.reduceEqDiff, Nat.reduceLeDiff, Nat.reduceLT, Nat.reduceAdd, Nat.reduceMul, Nat.reduceSub, Nat.not_lt_zero, Nat.zero_le, reduceCtorEq, ite_self, n_rem, and_self, and_true, true_and, and_false, false_and, hl, q1]
        simp (disch := first | assumption | omega | decide) only [x120_36, x120_37, x120_38, x120_39, x120_40, x120_41, ↓reduceIte, Option.toList, List.nil_append, List.cons_append, nI_add, pk_mul, n_and, n_or, n_xor, nI_leI, nI_ltI, nI_eq, n_z, uI_s, uI_n, bI_n0, bI_n1, bT, bF, if_true, if_false, not_true, not_false_eq_true, pk_div, pk_rem, Nat.reduceEqDiff, Nat.reduceLeDiff, Nat.reduceLT, Nat.reduceAdd, Nat.reduceMul, Nat.reduceSub, Nat.not_lt_zero, Nat.zero_le, reduceCtorEq, ite_self, n_rem, and_self, and_true, true_and, and_false, false_and, c2L, Bool.false_eq_true, q2]
      · intro I J T hM eM
        have g : ∀ k, I 92 k = M 92 k := fun k => by rw [← eM, txI_g (by omega)]
        obtain ⟨I1, J1, f1, c1, q1⟩ := hM1 I J T hM eM
        obtain ⟨I2, J2, f2, c2, q2⟩ := hM2 I1 J1 T c1 (FrM_x f1 eM)
        refine ⟨I2, J2, FrM_t f2 f1, c2, fun Q => ?_⟩
        rw [x249_14]
        simp (disch := first | assumption | omega | decide) only [x249_0, x249_1, x249_2, x249_3, x249_4, x249_5, x249_6, x249_7, x249_8, x249_9, x249_10, x249_11, x249_12, x249_13, x249_15, x249_16, x249_17, x249_18, x249_19, x249_20, x249_21, x249_22, x249_23, x249_24, x249_25, x249_26, x249_27, x249_28, x249_29, x249_30, x249_31, x249_32, x249_33, x249_34, x249_35, x249_36, x249_37, x249_38, x249_39, g, e1, ↓reduceIte, Option.toList, List.nil_append, List.cons_append, nI_add, pk_mul, n_and, n_or, n_xor, nI_leI, nI_ltI, nI_eq, n_z, uI_s, uI_n, bI_n0, bI_n1, bT, bF, if_true, if_false, not_true, not_false_eq_true, pk_div, pk_rem, Nat.reduceEqDiff, Nat.reduceLeDiff, Nat.reduceLT, Nat.reduceAdd, Nat.reduceMul, Nat.reduceSub, Nat.not_lt_zero, Nat.zero_le, reduceCtorEq, ite_self, n_rem, and_self, and_true, true_and, and_false, false_and, hl, q1, q2]
theorem jt_played {x : Int32} : Jt TXp sc (d + 10) 120 249 [some (.ref 0), some (.int x), none, none, none, none] [some (.ref 89), some (.int x), none] := by
  intro A B M w hX
  have w' := w
  obtain ⟨wA, wB, wt⟩ := w
  have w2 : A 2 ≤ 4 := wA.1.2.2.1
  by_cases hx : inR x (A 2)
  · obtain ⟨t, ht, rfl⟩ := hx
    obtain ⟨n, W, F, S, hn, e0, e1, hk, hL⟩ := hX t ht
    obtain ⟨v, A', B', w1, l1, hC, hM⟩ := pl_J (sc := sc) (d := d) (by omega) hn e0 e1 hk n 0 (by omega) A B w' hX
    refine ⟨v, A', B', w1, l1, ?_, ?_⟩
    · intro I J T cI eM
      obtain ⟨I1, f1, c1, q1⟩ := hC I J T none none cI eM
      refine ⟨I1, f1, c1, fun Q => ?_⟩
      rw [← q1 Q]
      simp (disch := first | assumption | omega | decide) only [x120_0, x120_1, x120_2, x120_3, x120_4, x120_5, x120_6, x120_7, x120_8, x120_9, x120_10, x120_11r, x120_11n, x120_12, x120_13, ↓reduceIte, Option.toList, List.nil_append, List.cons_append, nI_add, pk_mul, n_and, n_or, n_xor, nI_leI, nI_ltI, nI_eq, n_z, uI_s, uI_n, bI_n0, bI_n1, bT, bF, if_true, if_false, not_true, not_false_eq_true, pk_div, pk_rem, Nat.reduceEqDiff, Nat.reduceLeDiff, Nat.reduceLT, Nat.reduceAdd, Nat.reduceMul, Nat.reduceSub, Nat.not_lt_zero, Nat.zero_le, reduceCtorEq, ite_self, n_rem, and_self, and_true, true_and, and_false, false_and, sp_txtC_ta ht w2 (tw_texts cI.1), vr_46 (show t < 4 by omega), c2L, Bool.false_eq_true]
    · intro I J T mI eM
      obtain ⟨I1, J1, f1, c1, q1⟩ := hM I J T mI eM
      refine ⟨I1, J1, f1, c1, fun Q => ?_⟩
      rw [← q1 Q]
      have h2 : t ≤ A 2 - 1 := by omega
      simp (disch := first | assumption | omega | decide) only [x249_0, x249_1, x249_2, x249_3, x249_4, x249_5, x249_6, x249_7, x249_8, x249_9, x249_10, x249_11, x249_12, x249_13, ↓reduceIte, Option.toList, List.nil_append, List.cons_append, nI_add, pk_mul, n_and, n_or, n_xor, nI_leI, nI_ltI, nI_eq, n_z, uI_s, uI_n, bI_n0, bI_n1, bT, bF, if_true, if_false, not_true, not_false_eq_true, pk_div, pk_rem, Nat.reduceEqDiff, Nat.reduceLeDiff, Nat.reduceLT, Nat.reduceAdd, Nat.reduceMul, Nat.reduceSub, Nat.not_lt_zero, Nat.zero_le, reduceCtorEq, ite_self, n_rem, and_self, and_true, true_and, and_false, false_and, mI.1 2 (by decide), n_sub (show 1 ≤ A 2 by omega), sp_isIn, ↓in_t]
  · refine jtR w' (-2) ?_ ?_ <;> intro I J T Q hI
    · simp (disch := first | assumption | omega | decide) only [x120_0, x120_1, x120_2, x120_3, x120_4, x120_5, x120_6, ↓reduceIte, Option.toList, List.nil_append, List.cons_append, nI_add, pk_mul, n_and, n_or, n_xor, nI_leI, nI_ltI, nI_eq, n_z, uI_s, uI_n, bI_n0, bI_n1, bT, bF, if_true, if_false, not_true, not_false_eq_true, pk_div, pk_rem, Nat.reduceEqDiff, Nat.reduceLeDiff, Nat.reduceLT, Nat.reduceAdd, Nat.reduceMul, Nat.reduceSub, Nat.not_lt_zero, Nat.zero_le, reduceCtorEq, ite_self, n_rem, and_self, and_true, true_and, and_false, false_and, sp_txtC_fa hx w2 (tw_texts hI.1)]
    · have e : bI (nI 0 ≤ x ∧ x ≤ nI (A 2) - nI 1) = nI 0 := by
        rw [bI_f]
        rintro ⟨h1, h2⟩
        rcases inR_f hx (by omega) with h3 | h3
        · exact absurd h3 (Int32.not_lt.mpr h1)
        · by_cases h0 : A 2 = 0
          · rw [h0] at h2
            have h4 := Int32.le_trans h1 h2
            exact absurd h4 (by decide)
          · rw [n_sub (by omega)] at h2
            exact absurd (Int32.le_trans h3 h2) (nI_ge (by omega) (by omega))
      simp (disch := first | assumption | omega | decide) only [x249_0, x249_1, x249_2, x249_3, x249_4, x249_5, x249_6, x249_7, x249_8, x249_9, x249_10, x249_11, x249_12, x249_13, ↓reduceIte, Option.toList, List.nil_append, List.cons_append, nI_add, pk_mul, n_and, n_or, n_xor, nI_leI, nI_ltI, nI_eq, n_z, uI_s, uI_n, bI_n0, bI_n1, bT, bF, if_true, if_false, not_true, not_false_eq_true, pk_div, pk_rem, Nat.reduceEqDiff, Nat.reduceLeDiff, Nat.reduceLT, Nat.reduceAdd, Nat.reduceMul, Nat.reduceSub, Nat.not_lt_zero, Nat.zero_le, reduceCtorEq, ite_self, n_rem, and_self, and_true, true_and, and_false, false_and, hI.1 2 (by decide), sp_isIn, e]
end Play
