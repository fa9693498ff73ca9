/-! colours -/
def cF (A : Nat → Nat) (n S : Nat) : Nat := W2 A S * (if n = 3 then on A (255 - S) else W2 A (255 - S))
def cV (A : Nat → Nat) (n : Nat) : Nat := if n = 1 then on A 255 else if n = 2 then W2 A 255 else sm (cF A n) 256
theorem cV_eq {A : Nat → Nat} {n : Nat} {F : Nat → Int32} (w : Wf A) (h1 : 1 ≤ n) (h4 : n ≤ 4) : (clA A n F).1 = cV A n := by
  rw [cl_fs w]
  unfold cV
  have : n = 1 ∨ n = 2 ∨ n = 3 ∨ n = 4 := by omega
  rcases this with rfl | rfl | rfl | rfl
  · rw [if_pos rfl]
    exact col1
  · rw [if_neg (by decide), if_pos rfl]
    exact col2
  · rw [if_neg (by decide), if_neg (by decide), col3]
    rfl
  · rw [if_neg (by decide), if_neg (by decide), col4]
    rfl
section Colj
variable {sc : Sc} {d : Nat} {J : Nat → Nat → Int64} {T : Option Nat} {A : Nat → Nat}
theorem sp_colC {I : Nat → Nat → Int32} {n : Nat} (h1 : 1 ≤ n) (h4 : n ≤ 4) (w : Wf A) (eB : BsC I A) : ∃ I', (∀ c k, c ≠ 74 ∧ c ≠ 75 → I' c k = I c k) ∧ ∀ Q, Rn sc (d + 3) 72 0 [some (.ref 72), some (.int (nI n)), none, none, none, none] [] (K0, I, J, R1 T) Q = Q (some (.long (lN (cV A n)))) (K0, I', J, R1 T) := by
  obtain ⟨I1, f1, k1, q1⟩ := sp_inside (sc := sc) (d := d) (J := J) (T := T) w eB
  obtain ⟨I2, ⟨f2, k2⟩, h3⟩ := iterE (fun S I' => (∀ c k, c ≠ 75 → I' c k = I1 c k) ∧ ∀ x, x < S → I' 75 x = nI (W2 A x)) (fun S I' => fun Q => Rn sc (d + 3) 72 4 [some (.ref 72), some (.int (nI n)), some (.int (nI S)), none, none, none] [] (K0, I', J, R1 T) Q) 256 (by
    rintro S I2 hS ⟨f2, k2⟩
    have lS : ¬ 256 ≤ S := by omega
    have tw := sp_two2 (sc := sc) (d := d + 1) (J := J) (T := T) w hS (fun x hx => (f2 _ _ (by omega)).trans (k1 x hx))
    refine ⟨uI I2 75 S (nI (W2 A S)), ⟨fun c k hc => (uI_n (by omega)).trans (f2 c k hc), fun x hx => ?_⟩, funext fun Q => ?_⟩
    · by_cases e : x = S
      · rw [e, uI_s]
      · rw [uI_n (by omega)]
        exact k2 x (by omega)
    · show Rn _ _ _ _ _ _ _ _ = Rn _ _ _ _ _ _ _ _
      rw [x72_4]
      simp (disch := first | assumption | omega | decide) only [x72_5, x72_6, x72_7, x72_8, x72_9, x72_10, x72_11, x72_12, x72_13, x72_14, x72_15, ↓reduceIte, Option.toList, List.nil_append, List.cons_append, nI_add, pk_mul, n_and, n_or, n_xor, nI_leI, nI_ltI, nI_eq, n_z, uI_s, uI_n, bI_n0, bI_n1, bT, bF, if_true, if_false, not_true, not_false_eq_true, pk_div, pk_rem, Nat.reduceEqDiff, Nat.reduceLeDiff, Nat.reduceLT, Nat.reduceAdd, Nat.reduceMul, Nat.reduceSub, Nat.not_lt_zero, Nat.zero_le, reduceCtorEq, ite_self, n_rem, and_self, and_true, true_and, and_false, false_and, lS, tw]) I1 ⟨fun _ _ _ => rfl, fun x hx => by omega⟩
  have k3 : ∀ S, S < 256 → I2 74 S = nI (inR' A S) := fun S hS => (f2 _ _ (by omega)).trans (k1 S hS)
  refine ⟨I2, fun c k hc => (f2 c k hc.2).trans (f1 c k hc.1), fun Q => ?_⟩
  have h3' := congrFun h3 Q
  simp (disch := first | assumption | omega | decide) only [x72_0, x72_1, x72_2, x72_3, ↓reduceIte, Option.toList, List.nil_append, List.cons_append, nI_add, pk_mul, n_and, n_or, n_xor, nI_leI, nI_ltI, nI_eq, n_z, uI_s, uI_n, bI_n0, bI_n1, bT, bF, if_true, if_false, not_true, not_false_eq_true, pk_div, pk_rem, Nat.reduceEqDiff, Nat.reduceLeDiff, Nat.reduceLT, Nat.reduceAdd, Nat.reduceMul, Nat.reduceSub, Nat.not_lt_zero, Nat.zero_le, reduceCtorEq, ite_self, n_rem, and_self, and_true, true_and, and_false, false_and, q1]
  refine Eq.trans h3' ?_
  show Rn _ _ _ _ _ _ _ _ = _
  rw [x72_4]
  have on255 := fun Q => sp_one (Q := Q) (sc := sc) (d := d + 2) (J := J) (T := T) w (show 255 < 256 by decide) k3
  have lo := on_1 (A := A) (S := 255)
  have lw := W2_le (A := A) (S := 255)
  have w255 := k2 255 (by decide)
  unfold cV
  by_cases c1 : n = 1
  · subst c1
    rw [if_pos rfl]
    simp (disch := first | assumption | omega | decide) only [x72_5, x72_6, x72_16, x72_17, x72_18, x72_19, x72_20, x72_21, x72_22, x72_23, x72_24, x72_25, x72_26, x72_27, x72_28, x72_29, x72_30, x72_31, x72_32, ↓reduceIte, Option.toList, List.nil_append, List.cons_append, nI_add, pk_mul, n_and, n_or, n_xor, nI_leI, nI_ltI, nI_eq, n_z, uI_s, uI_n, bI_n0, bI_n1, bT, bF, if_true, if_false, not_true, not_false_eq_true, pk_div, pk_rem, Nat.reduceEqDiff, Nat.reduceLeDiff, Nat.reduceLT, Nat.reduceAdd, Nat.reduceMul, Nat.reduceSub, Nat.not_lt_zero, Nat.zero_le, reduceCtorEq, ite_self, n_rem, and_self, and_true, true_and, and_false, false_and, Nat.le_refl, on255, nJ (show on A 255 < 2 ^ 31 by omega)]
  · rw [if_neg c1]
    by_cases c2 : n = 2
    · subst c2
      rw [if_pos rfl]
      simp (disch := first | assumption | omega | decide) only [x72_5, x72_6, x72_16, x72_17, x72_18, x72_19, x72_20, x72_21, x72_22, x72_23, x72_24, x72_25, x72_26, x72_27, x72_28, x72_29, x72_30, x72_31, x72_32, ↓reduceIte, Option.toList, List.nil_append, List.cons_append, nI_add, pk_mul, n_and, n_or, n_xor, nI_leI, nI_ltI, nI_eq, n_z, uI_s, uI_n, bI_n0, bI_n1, bT, bF, if_true, if_false, not_true, not_false_eq_true, pk_div, pk_rem, Nat.reduceEqDiff, Nat.reduceLeDiff, Nat.reduceLT, Nat.reduceAdd, Nat.reduceMul, Nat.reduceSub, Nat.not_lt_zero, Nat.zero_le, reduceCtorEq, ite_self, n_rem, and_self, and_true, true_and, and_false, false_and, Nat.le_refl, w255, nJ (show W2 A 255 < 2 ^ 31 by omega)]
    · rw [if_neg c2]
      have n2 : 2 < n := by omega
      obtain ⟨u, -, h5⟩ := iterE (St := Option Value) (fun (_ : Nat) _ => True) (fun S u => Rn sc (d + 3) 72 37 [some (.ref 72), some (.int (nI n)), some (.long (lN (sm (cF A n) S))), none, some (.int (nI S)), u] [] (K0, I2, J, R1 T) Q) 256 (by
        rintro S u hS -
        have lS : ¬ 256 ≤ S := by omega
        have ws := k2 S hS
        have wo := k2 (255 - S) (by omega)
        have oo := fun Q => sp_one (Q := Q) (sc := sc) (d := d + 2) (J := J) (T := T) w (show 255 - S < 256 by omega) k3
        have l1 := W2_le (A := A) (S := S)
        have l2 := W2_le (A := A) (S := 255 - S)
        have l3 := on_1 (A := A) (S := 255 - S)
        have q : 255 - S < 256 := by omega
        refine ⟨some (.int (nI (255 - S))), trivial, ?_⟩
        show Rn _ _ _ _ _ _ _ _ = Rn _ _ _ _ _ _ _ _
        rw [x72_37, sm]
        unfold cF
        by_cases c3 : n = 3
        · subst c3
          rw [if_pos rfl]
          simp (disch := first | assumption | omega | decide) only [x72_38, x72_39, x72_40, x72_41, x72_42, x72_43, x72_44, x72_45, x72_46, x72_47, x72_48, x72_49, x72_50, x72_51, x72_52, x72_53, x72_54, x72_55, x72_56, x72_57, x72_58, x72_59, x72_60, x72_61, x72_62, x72_63, x72_64, x72_65, x72_66, ↓reduceIte, Option.toList, List.nil_append, List.cons_append, nI_add, pk_mul, n_and, n_or, n_xor, nI_leI, nI_ltI, nI_eq, n_z, uI_s, uI_n, bI_n0, bI_n1, bT, bF, if_true, if_false, not_true, not_false_eq_true, pk_div, pk_rem, Nat.reduceEqDiff, Nat.reduceLeDiff, Nat.reduceLT, Nat.reduceAdd, Nat.reduceMul, Nat.reduceSub, Nat.not_lt_zero, Nat.zero_le, reduceCtorEq, ite_self, n_rem, and_self, and_true, true_and, and_false, false_and, lS, n_sub (show S ≤ 255 by omega), ws, oo, nJ (show W2 A S < 2 ^ 31 by omega), nJ (show on A (255 - S) < 2 ^ 31 by omega), lN_mul, lN_add]
        · rw [if_neg c3]
          simp (disch := first | assumption | omega | decide) only [x72_38, x72_39, x72_40, x72_41, x72_42, x72_43, x72_44, x72_45, x72_46, x72_47, x72_48, x72_49, x72_50, x72_51, x72_52, x72_53, x72_54, x72_55, x72_56, x72_57, x72_58, x72_59, x72_60, x72_61, x72_62, x72_63, x72_64, x72_65, x72_66, ↓reduceIte, Option.toList, List.nil_append, List.cons_append, nI_add, pk_mul, n_and, n_or, n_xor, nI_leI, nI_ltI, nI_eq, n_z, uI_s, uI_n, bI_n0, bI_n1, bT, bF, if_true, if_false, not_true, not_false_eq_true, pk_div, pk_rem, Nat.reduceEqDiff, Nat.reduceLeDiff, Nat.reduceLT, Nat.reduceAdd, Nat.reduceMul, Nat.reduceSub, Nat.not_lt_zero, Nat.zero_le, reduceCtorEq, ite_self, n_rem, and_self, and_true, true_and, and_false, false_and, lS, n_sub (show S ≤ 255 by omega), ws, wo, c3, nJ (show W2 A S < 2 ^ 31 by omega), nJ (show W2 A (255 - S) < 2 ^ 31 by omega), lN_mul, lN_add]) none trivial
      have h5 : Rn sc (d + 3) 72 37 [some (.ref 72), some (.int (nI n)), some (.long (lN 0)), none, some (.int (nI 0)), none] [] (K0, I2, J, R1 T) Q = Rn sc (d + 3) 72 37 [some (.ref 72), some (.int (nI n)), some (.long (lN (sm (cF A n) 256))), none, some (.int (nI 256)), u] [] (K0, I2, J, R1 T) Q := h5
      simp (disch := first | assumption | omega | decide) only [x72_5, x72_6, x72_16, x72_17, x72_18, x72_33, x72_34, x72_35, x72_36, ↓reduceIte, Option.toList, List.nil_append, List.cons_append, nI_add, pk_mul, n_and, n_or, n_xor, nI_leI, nI_ltI, nI_eq, n_z, uI_s, uI_n, bI_n0, bI_n1, bT, bF, if_true, if_false, not_true, not_false_eq_true, pk_div, pk_rem, Nat.reduceEqDiff, Nat.reduceLeDiff, Nat.reduceLT, Nat.reduceAdd, Nat.reduceMul, Nat.reduceSub, Nat.not_lt_zero, Nat.zero_le, reduceCtorEq, ite_self, n_rem, and_self, and_true, true_and, and_false, false_and, Nat.le_refl, n2, show (0 : Int64) = lN 0 from rfl]
      rw [h5, x72_37]
      simp (disch := first | assumption | omega | decide) only [x72_38, x72_39, x72_67, x72_68, ↓reduceIte, Option.toList, List.nil_append, List.cons_append, nI_add, pk_mul, n_and, n_or, n_xor, nI_leI, nI_ltI, nI_eq, n_z, uI_s, uI_n, bI_n0, bI_n1, bT, bF, if_true, if_false, not_true, not_false_eq_true, pk_div, pk_rem, Nat.reduceEqDiff, Nat.reduceLeDiff, Nat.reduceLT, Nat.reduceAdd, Nat.reduceMul, Nat.reduceSub, Nat.not_lt_zero, Nat.zero_le, reduceCtorEq, ite_self, n_rem, and_self, and_true, true_and, and_false, false_and, Nat.le_refl]
end Colj
section Colj2
variable {TX : (Nat → Nat → Int32) → Nat → Prop} {sc : Sc} {d : Nat}
theorem pj_colours {x : Int32} : PairJ (Inv TX) sc (d + 4) 140 280 [some (.ref 0), some (.int x)] [some (.ref 89), some (.int x)] := by
  rintro I J T ⟨A, B, hC, hM, hW, hT, hX⟩
  have wA := hW.1
  have en : (∃ n, 1 ≤ n ∧ n ≤ 4 ∧ x = nI n) ∨ bI (nI 1 ≤ x ∧ x ≤ nI 4) = nI 0 := by
    by_cases hx : inR x 5
    · obtain ⟨n, hn, rfl⟩ := hx
      by_cases hn0 : n = 0
      · subst hn0
        exact Or.inr (in_l (by omega) (by omega))
      · exact Or.inl ⟨n, by omega, by omega, rfl⟩
    · right
      rw [bI_f]
      rintro ⟨h1, h2⟩
      have := nr_f hx (by decide)
      rw [← this]
      exact ⟨Int32.le_trans (by decide) h1, h2⟩
  rcases en with ⟨n, hn1, hn4, rfl⟩ | en
  · obtain ⟨I1, f1, q1⟩ := sp_colC (sc := sc) (d := d) (J := J) (T := T) hn1 hn4 wA (BsC_of hC)
    have hM1 : MI I1 A B := MI_c hM (fun c k hc => f1 c k (by omega)) (f1 _ _ (by omega))
    obtain ⟨I2, f2, -, q2⟩ := sp_clM (sc := sc) (d := d + 1) (J := J) (T := T) hn4 wA hM1.1
    rw [cV_eq wA hn1 hn4] at q2
    have e1 : ∀ Q, Rn sc (d + 4) 140 0 [some (.ref 0), some (.int (nI n))] [] (K0, I, J, R1 T) Q = Q (some (.long (lN (cV A n)))) (K0, I1, J, R1 T) := by
      intro Q
      simp (disch := first | assumption | omega | decide) only [x140_0, x140_1, x140_2, x140_3, x140_4, x140_5, x140_6, x140_7, x140_8, x140_9, x140_10, x140_11, ↓reduceIte, Option.toList, List.nil_append, List.cons_append, nI_add, pk_mul, n_and, n_or, n_xor, nI_leI, nI_ltI, nI_eq, n_z, uI_s, uI_n, bI_n0, bI_n1, bT, bF, if_true, if_false, not_true, not_false_eq_true, pk_div, pk_rem, Nat.reduceEqDiff, Nat.reduceLeDiff, Nat.reduceLT, Nat.reduceAdd, Nat.reduceMul, Nat.reduceSub, Nat.not_lt_zero, Nat.zero_le, reduceCtorEq, ite_self, n_rem, and_self, and_true, true_and, and_false, false_and, sp_isWithin, ↓in_t, q1]
    have e2 : ∀ Q, Rn sc (d + 4) 280 0 [some (.ref 89), some (.int (nI n))] [] (K0, I1, J, R1 T) Q = Q (some (.long (lN (cV A n)))) (K0, I2, J, R1 T) := by
      intro Q
      simp (disch := first | assumption | omega | decide) only [x280_0, x280_1, x280_2, x280_3, x280_4, x280_5, x280_6, x280_7, x280_8, x280_9, x280_10, ↓reduceIte, Option.toList, List.nil_append, List.cons_append, nI_add, pk_mul, n_and, n_or, n_xor, nI_leI, nI_ltI, nI_eq, n_z, uI_s, uI_n, bI_n0, bI_n1, bT, bF, if_true, if_false, not_true, not_false_eq_true, pk_div, pk_rem, Nat.reduceEqDiff, Nat.reduceLeDiff, Nat.reduceLT, Nat.reduceAdd, Nat.reduceMul, Nat.reduceSub, Nat.not_lt_zero, Nat.zero_le, reduceCtorEq, ite_self, n_rem, and_self, and_true, true_and, and_false, false_and, sp_isIn, ↓in_t, q2]
    rw [e1]
    refine ⟨lN (cV A n), rfl, I1, J, T, rfl, ?_⟩
    rw [e2]
    have g : ∀ c k, c ≠ 74 ∧ c ≠ 75 ∧ c ≠ 100 ∧ c ≠ 101 → I2 c k = I c k := fun c k hc => (f2 c k (by omega)).trans (f1 c k (by omega))
    refine ⟨rfl, I2, J, T, rfl, A, B, CI_c hW hC (fun c k hc => g c k (by omega)), MI_c hM (fun c k hc => g c k (by omega)) (g _ _ (by omega)), hW, ?_, ?_⟩
    · exact Tpe_c hT (fun c k hc => g c k (by omega)) (fun k hk => g _ _ (by omega))
    · rw [show txI I2 = txI I from txI_c (fun c k hc => g c k (by omega))]
      exact hX
  · have e1 : ∀ Q, Rn sc (d + 4) 140 0 [some (.ref 0), some (.int x)] [] (K0, I, J, R1 T) Q = Q (some (.long (-1))) (K0, I, J, R1 T) := by
      intro Q
      simp (disch := first | assumption | omega | decide) only [x140_0, x140_1, x140_2, x140_3, x140_4, x140_5, x140_6, x140_7, x140_8, x140_9, x140_10, x140_11, ↓reduceIte, Option.toList, List.nil_append, List.cons_append, nI_add, pk_mul, n_and, n_or, n_xor, nI_leI, nI_ltI, nI_eq, n_z, uI_s, uI_n, bI_n0, bI_n1, bT, bF, if_true, if_false, not_true, not_false_eq_true, pk_div, pk_rem, Nat.reduceEqDiff, Nat.reduceLeDiff, Nat.reduceLT, Nat.reduceAdd, Nat.reduceMul, Nat.reduceSub, Nat.not_lt_zero, Nat.zero_le, reduceCtorEq, ite_self, n_rem, and_self, and_true, true_and, and_false, false_and, sp_isWithin, en]
    have e2 : ∀ Q, Rn sc (d + 4) 280 0 [some (.ref 89), some (.int x)] [] (K0, I, J, R1 T) Q = Q (some (.long (-1))) (K0, I, J, R1 T) := by
      intro Q
      simp (disch := first | assumption | omega | decide) only [x280_0, x280_1, x280_2, x280_3, x280_4, x280_5, x280_6, x280_7, x280_8, x280_9, x280_10, ↓reduceIte, Option.toList, List.nil_append, List.cons_append, nI_add, pk_mul, n_and, n_or, n_xor, nI_leI, nI_ltI, nI_eq, n_z, uI_s, uI_n, bI_n0, bI_n1, bT, bF, if_true, if_false, not_true, not_false_eq_true, pk_div, pk_rem, Nat.reduceEqDiff, Nat.reduceLeDiff, Nat.reduceLT, Nat.reduceAdd, Nat.reduceMul, Nat.reduceSub, Nat.not_lt_zero, Nat.zero_le, reduceCtorEq, ite_self, n_rem, and_self, and_true, true_and, and_false, false_and, sp_isIn, en]
    rw [e1]
    refine ⟨-1, rfl, I, J, T, rfl, ?_⟩
    rw [e2]
    exact ⟨rfl, I, J, T, rfl, A, B, hC, hM, hW, hT, hX⟩
end Colj2
