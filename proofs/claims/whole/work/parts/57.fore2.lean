/-! foretold, put together -/
section Fore2
variable {sc : Sc} {d : Nat} {T : Option Nat} {M : Nat → Nat → Int32} {f : (Nat → Nat) → Nat → Nat → Int32} {g : (Nat → Nat) → Nat → Nat → Nat}
theorem fo_C2 {I : Nat → Nat → Int32} {J : Nat → Nat → Int64} {A B : Nat → Nat} {n : Nat} {l2 l3 l4 l5 : Int32} (hn : n < 1000) (hF : BelC M (A 3) f) (hC : RntC M (A 3) g) (hg : gB g) (w : WW A B) (cI : CI I A B) (eM : txI I = M) : ∃ I', CI I' A B ∧ Twn I' 19 20 21 22 23 24 25 26 27 (psN tlA f g A (dyM A n)) ∧ (∀ c k, (46 ≤ c ∧ c ≤ 68) ∨ 89 ≤ c → I' c k = I c k) ∧ ∀ Q, Rn sc (d + 7) 131 32 [some (.ref 0), some (.int (nI n)), some (.int l2), some (.int l3), some (.int l4), some (.int l5), none] [] (K0, I, J, R1 T) Q = Rn sc (d + 7) 131 56 [some (.ref 0), some (.int (nI n)), some (.int l2), some (.int l3), some (.int l4), some (.int l5), some (.int (nI (dyM A n)))] [] (K0, I', J, R1 T) Q := by
  have w8 : A 8 ≤ 9999 := w.1.1.2.2.2.2.2.2.2.2.1
  have hm : dyM A n ≤ n ∧ A 8 + dyM A n ≤ 9999 := by
    unfold dyM
    split <;> omega
  obtain ⟨I', h1, h2, h3, h4⟩ := fo_C (sc := sc) (d := d) (J := J) (T := T) (n := n) (l2 := l2) (l3 := l3) (l4 := l4) (l5 := l5) hn hF hC hg w cI eM
  refine ⟨I', h1, h2, h3, fun Q => ?_⟩
  obtain ⟨wj, ej, kj⟩ := psN_inv (f := f) tlK_1 hg w.1 (dyM A n) hm.2
  have e8 : I' 19 11 = nI (A 8 + dyM A n) := by rw [← ej]; exact tw_day h2
  rw [h4, x131_39]
  by_cases c : A 8 + n ≤ 9999
  · have em : dyM A n = n := if_pos c
    rw [em]
    simp (disch := first | assumption | omega | decide) only [x131_40, x131_41, x131_42, x131_43, x131_44, x131_45, x131_46, x131_47, x131_48, x131_49, x131_50, x131_51, x131_52, x131_53r, x131_53n, x131_54, x131_55, ↓reduceIte, Option.toList, List.nil_append, List.cons_append, nI_add, pk_mul, n_and, n_or, n_xor, nI_leI, nI_ltI, nI_eq, n_z, uI_s, uI_n, bI_n0, bI_n1, bT, bF, if_true, if_false, not_true, not_false_eq_true, pk_div, pk_rem, Nat.reduceEqDiff, Nat.reduceLeDiff, Nat.reduceLT, Nat.reduceAdd, Nat.reduceMul, Nat.reduceSub, Nat.not_lt_zero, Nat.zero_le, reduceCtorEq, ite_self, n_rem, and_self, and_true, true_and, and_false, false_and, Nat.le_refl]
  · have em : dyM A n = 9999 - A 8 := if_neg c
    rw [em] at e8 ⊢
    have a1 : ¬ n ≤ 9999 - A 8 := by omega
    have a2 : 9999 ≤ A 8 + (9999 - A 8) := by omega
    simp (disch := first | assumption | omega | decide) only [x131_40, x131_41, x131_42, x131_43, x131_44, x131_45, x131_46, x131_47, x131_48, x131_49, x131_50, x131_51, x131_52, x131_53r, x131_53n, x131_54, x131_55, ↓reduceIte, Option.toList, List.nil_append, List.cons_append, nI_add, pk_mul, n_and, n_or, n_xor, nI_leI, nI_ltI, nI_eq, n_z, uI_s, uI_n, bI_n0, bI_n1, bT, bF, if_true, if_false, not_true, not_false_eq_true, pk_div, pk_rem, Nat.reduceEqDiff, Nat.reduceLeDiff, Nat.reduceLT, Nat.reduceAdd, Nat.reduceMul, Nat.reduceSub, Nat.not_lt_zero, Nat.zero_le, reduceCtorEq, ite_self, n_rem, and_self, and_true, true_and, and_false, false_and, a1, e8, a2]
theorem jt_foretold {x y z : Int32} : Jt TXp sc (d + 8) 131 263 [some (.ref 0), some (.int x), some (.int y), some (.int z), none, none, none] [some (.ref 89), some (.int x), some (.int y), some (.int z), none, none] := by
  intro A B M w hX
  have w' := w
  obtain ⟨wA, wB, wt⟩ := w
  have w1 : A 1 ≤ 4 := wA.1.2.1
  have w8 : A 8 ≤ 9999 := wA.1.2.2.2.2.2.2.2.2.1
  have en : (∃ n, 1 ≤ n ∧ n ≤ 60 ∧ x = nI n) ∨ bI (nI 1 ≤ x ∧ x ≤ nI 60) = nI 0 := by
    by_cases hx : inR x 61
    · obtain ⟨n, hn, rfl⟩ := hx
      by_cases hn0 : n = 0
      · subst hn0
        exact Or.inr (in_l (by omega) (by omega))
      · exact Or.inl ⟨n, by omega, by omega, rfl⟩
    · right
      rw [bI_f]
      rintro ⟨h1, h2⟩
      have := nr_f hx (by decide)
      rw [← this]
      exact ⟨Int32.le_trans (by decide) h1, h2⟩
  by_cases hy : inR y 2
  · obtain ⟨b, hb, rfl⟩ := hy
    have hb' : b = 0 ∨ b = 1 := by omega
    rcases hb' with rfl | rfl
    · by_cases hz : inR z 8
      · obtain ⟨h, hz, rfl⟩ := hz
        rcases en with en | en
        · obtain ⟨n, hn1, hn2, rfl⟩ := en
          obtain ⟨f, hF, hFM, iF⟩ := bel_ex3 (law_ok wA hX)
          obtain ⟨g, hC, hM, iG, hg⟩ := rnt_ex4 (law_ok wA hX)
          have hg' : gB g := hg
          have hm : dyM A n ≤ n ∧ A 8 + dyM A n ≤ 9999 := by
            unfold dyM
            split <;> omega
          obtain ⟨wj, ej, kj⟩ := psN_inv (f := f) tlK_1 hg' wA (dyM A n) hm.2
          obtain ⟨wk, ek, kk⟩ := psN_inv (f := f) tlK_0 hg' wA (dyM A n) hm.2
          have eq := psN_eq iF iG hg' wA (dyM A n) hm.2
          refine ⟨nI (psN tlA f g A (dyM A n) (12 + h)), A, B, w', Nat.le_refl _, ?_, ?_⟩
          · intro I J T cI eM
            obtain ⟨I', h1, h2, h3, h4⟩ := fo_C2 (sc := sc) (d := d + 1) (J := J) (T := T) (n := n) (l2 := nI 0) (l3 := nI h) (l4 := nI 1) (l5 := nI 0) (by omega) hF hC hg' w' cI eM
            refine ⟨I', h3, h1, fun Q => ?_⟩
            simp (disch := first | assumption | omega | decide) only [x131_0, x131_1, x131_2, x131_3, x131_4, x131_5, x131_6, x131_7, x131_8, x131_9, x131_10, x131_11, x131_12, x131_13, x131_14, x131_15, x131_16, x131_17, x131_18, x131_19, x131_20, x131_21, x131_22, x131_23, x131_24, x131_25, x131_26, x131_27, x131_28, x131_29, x131_30, x131_31, ↓reduceIte, Option.toList, List.nil_append, List.cons_append, nI_add, pk_mul, n_and, n_or, n_xor, nI_leI, nI_ltI, nI_eq, n_z, uI_s, uI_n, bI_n0, bI_n1, bT, bF, if_true, if_false, not_true, not_false_eq_true, pk_div, pk_rem, Nat.reduceEqDiff, Nat.reduceLeDiff, Nat.reduceLT, Nat.reduceAdd, Nat.reduceMul, Nat.reduceSub, Nat.not_lt_zero, Nat.zero_le, reduceCtorEq, ite_self, n_rem, and_self, and_true, true_and, and_false, false_and, sp_houC_t hz, sp_isWithin, ↓in_t, h4]
            simp (disch := first | assumption | omega | decide) only [x131_56, x131_57, x131_58, x131_59, x131_60, x131_61, x131_62, x131_63, x131_64, x131_65, x131_66, x131_67, x131_68, ↓reduceIte, Option.toList, List.nil_append, List.cons_append, nI_add, pk_mul, n_and, n_or, n_xor, nI_leI, nI_ltI, nI_eq, n_z, uI_s, uI_n, bI_n0, bI_n1, bT, bF, if_true, if_false, not_true, not_false_eq_true, pk_div, pk_rem, Nat.reduceEqDiff, Nat.reduceLeDiff, Nat.reduceLT, Nat.reduceAdd, Nat.reduceMul, Nat.reduceSub, Nat.not_lt_zero, Nat.zero_le, reduceCtorEq, ite_self, n_rem, and_self, and_true, true_and, and_false, false_and, sp_atCb hz wj.1.2.1 (wj.2.1.1 h hz) h2]
          · intro I J T mI eM
            obtain ⟨I1, J1, h1, h98, h2, h3⟩ := fo_M (sc := sc) (d := d) (J := J) (T := T) (n := n) (l2 := nI 0) (l3 := nI h) hFM hM hg' w' mI eM (by omega)
            have hB : AtM I1 91 B := AtM_c mI.2.1 (fun k => h2 _ _ (by omega))
            obtain ⟨I2, mI2, f2, q2⟩ := fo_E (sc := sc) (d := d + 8) (J := J1) (T := T) (n := n) (l2 := nI 0) (l3 := nI h) (v := nI (psN tlA f g A (dyM A n) (12 + h))) h1 (fun k k1 k2 => by
              by_cases c : 1769 ≤ k
              · exact psN_hi hg' wA c (dyM A n) hm.2
              · exact kk k (by omega)) hB h98
            refine ⟨I2, J1, ⟨fun c k hc => (f2 c k (by omega)).trans (h2 c k (by omega)), fun k hk => (f2 _ _ (by omega)).trans (h2 _ _ (by omega))⟩, mI2, fun Q => ?_⟩
            have ev : I1 90 (12 + h) = nI (psN tlA f g A (dyM A n) (12 + h)) := (h1 _ (by omega)).trans (congrArg nI (eq _ (by omega) (by omega)))
            simp (disch := first | assumption | omega | decide) only [x263_0, x263_1, x263_2, x263_3, x263_4, x263_5, x263_6, x263_7, x263_8, x263_9, x263_10, x263_11, x263_12, x263_13, x263_14, x263_15, x263_16, x263_17, x263_18, x263_19, x263_20, x263_21, ↓reduceIte, Option.toList, List.nil_append, List.cons_append, nI_add, pk_mul, n_and, n_or, n_xor, nI_leI, nI_ltI, nI_eq, n_z, uI_s, uI_n, bI_n0, bI_n1, bT, bF, if_true, if_false, not_true, not_false_eq_true, pk_div, pk_rem, Nat.reduceEqDiff, Nat.reduceLeDiff, Nat.reduceLT, Nat.reduceAdd, Nat.reduceMul, Nat.reduceSub, Nat.not_lt_zero, Nat.zero_le, reduceCtorEq, ite_self, n_rem, and_self, and_true, true_and, and_false, false_and, sp_isIn, ↓in_t, sp_houM_t hz, h3]
            rw [x263_42]
            simp (disch := first | assumption | omega | decide) only [x263_43, x263_44, x263_45, x263_46, x263_47, x263_48, x263_49, x263_50, x263_51, x263_52, x263_53, x263_54, x263_55, x263_56, x263_57, x263_58, x263_59, x263_60, x263_61, x263_62, x263_63, x263_64, x263_65, x263_66, x263_67, x263_68, x263_69, x263_70, ↓reduceIte, Option.toList, List.nil_append, List.cons_append, nI_add, pk_mul, n_and, n_or, n_xor, nI_leI, nI_ltI, nI_eq, n_z, uI_s, uI_n, bI_n0, bI_n1, bT, bF, if_true, if_false, not_true, not_false_eq_true, pk_div, pk_rem, Nat.reduceEqDiff, Nat.reduceLeDiff, Nat.reduceLT, Nat.reduceAdd, Nat.reduceMul, Nat.reduceSub, Nat.not_lt_zero, Nat.zero_le, reduceCtorEq, ite_self, n_rem, and_self, and_true, true_and, and_false, false_and, Nat.le_refl, ev, q2]
        · refine jtR w' (-1) ?_ ?_ <;> intro I J T Q hI
          · simp (disch := first | assumption | omega | decide) only [x131_0, x131_1, x131_2, x131_3, x131_4, x131_5, x131_6, x131_7, x131_8, x131_9, x131_10, x131_11, x131_12, x131_13, x131_14, x131_15, x131_16, x131_17, x131_18, x131_19, x131_20, x131_21, x131_22, x131_23, x131_24, x131_25, x131_26, x131_27, x131_28, x131_29, x131_30, x131_31, ↓reduceIte, Option.toList, List.nil_append, List.cons_append, nI_add, pk_mul, n_and, n_or, n_xor, nI_leI, nI_ltI, nI_eq, n_z, uI_s, uI_n, bI_n0, bI_n1, bT, bF, if_true, if_false, not_true, not_false_eq_true, pk_div, pk_rem, Nat.reduceEqDiff, Nat.reduceLeDiff, Nat.reduceLT, Nat.reduceAdd, Nat.reduceMul, Nat.reduceSub, Nat.not_lt_zero, Nat.zero_le, reduceCtorEq, ite_self, n_rem, and_self, and_true, true_and, and_false, false_and, sp_isWithin, en, sp_houC_t hz]
          · simp (disch := first | assumption | omega | decide) only [x263_0, x263_1, x263_2, x263_3, x263_4, x263_5, x263_6, x263_7, x263_8, x263_9, x263_10, x263_11, x263_12, x263_13, x263_14, x263_15, x263_16, x263_17, x263_18, x263_19, x263_20, x263_21, ↓reduceIte, Option.toList, List.nil_append, List.cons_append, nI_add, pk_mul, n_and, n_or, n_xor, nI_leI, nI_ltI, nI_eq, n_z, uI_s, uI_n, bI_n0, bI_n1, bT, bF, if_true, if_false, not_true, not_false_eq_true, pk_div, pk_rem, Nat.reduceEqDiff, Nat.reduceLeDiff, Nat.reduceLT, Nat.reduceAdd, Nat.reduceMul, Nat.reduceSub, Nat.not_lt_zero, Nat.zero_le, reduceCtorEq, ite_self, n_rem, and_self, and_true, true_and, and_false, false_and, sp_isIn, en, ↓in_t, sp_houM_t hz]
      · rcases en with ⟨n, hn1, hn2, rfl⟩ | en
        · refine jtR w' (-1) ?_ ?_ <;> intro I J T Q hI
          · simp (disch := first | assumption | omega | decide) only [x131_0, x131_1, x131_2, x131_3, x131_4, x131_5, x131_6, x131_7, x131_8, x131_9, x131_10, x131_11, x131_12, x131_13, x131_14, x131_15, x131_16, x131_17, x131_18, x131_19, x131_20, x131_21, x131_22, x131_23, x131_24, x131_25, x131_26, x131_27, x131_28, x131_29, x131_30, x131_31, ↓reduceIte, Option.toList, List.nil_append, List.cons_append, nI_add, pk_mul, n_and, n_or, n_xor, nI_leI, nI_ltI, nI_eq, n_z, uI_s, uI_n, bI_n0, bI_n1, bT, bF, if_true, if_false, not_true, not_false_eq_true, pk_div, pk_rem, Nat.reduceEqDiff, Nat.reduceLeDiff, Nat.reduceLT, Nat.reduceAdd, Nat.reduceMul, Nat.reduceSub, Nat.not_lt_zero, Nat.zero_le, reduceCtorEq, ite_self, n_rem, and_self, and_true, true_and, and_false, false_and, sp_isWithin, ↓in_t, sp_houC_f hz]
          · simp (disch := first | assumption | omega | decide) only [x263_0, x263_1, x263_2, x263_3, x263_4, x263_5, x263_6, x263_7, x263_8, x263_9, x263_10, x263_11, x263_12, x263_13, x263_14, x263_15, x263_16, x263_17, x263_18, x263_19, x263_20, x263_21, ↓reduceIte, Option.toList, List.nil_append, List.cons_append, nI_add, pk_mul, n_and, n_or, n_xor, nI_leI, nI_ltI, nI_eq, n_z, uI_s, uI_n, bI_n0, bI_n1, bT, bF, if_true, if_false, not_true, not_false_eq_true, pk_div, pk_rem, Nat.reduceEqDiff, Nat.reduceLeDiff, Nat.reduceLT, Nat.reduceAdd, Nat.reduceMul, Nat.reduceSub, Nat.not_lt_zero, Nat.zero_le, reduceCtorEq, ite_self, n_rem, and_self, and_true, true_and, and_false, false_and, sp_isIn, ↓in_t, sp_houM_f hz]
        · refine jtR w' (-1) ?_ ?_ <;> intro I J T Q hI
          · simp (disch := first | assumption | omega | decide) only [x131_0, x131_1, x131_2, x131_3, x131_4, x131_5, x131_6, x131_7, x131_8, x131_9, x131_10, x131_11, x131_12, x131_13, x131_14, x131_15, x131_16, x131_17, x131_18, x131_19, x131_20, x131_21, x131_22, x131_23, x131_24, x131_25, x131_26, x131_27, x131_28, x131_29, x131_30, x131_31, ↓reduceIte, Option.toList, List.nil_append, List.cons_append, nI_add, pk_mul, n_and, n_or, n_xor, nI_leI, nI_ltI, nI_eq, n_z, uI_s, uI_n, bI_n0, bI_n1, bT, bF, if_true, if_false, not_true, not_false_eq_true, pk_div, pk_rem, Nat.reduceEqDiff, Nat.reduceLeDiff, Nat.reduceLT, Nat.reduceAdd, Nat.reduceMul, Nat.reduceSub, Nat.not_lt_zero, Nat.zero_le, reduceCtorEq, ite_self, n_rem, and_self, and_true, true_and, and_false, false_and, sp_isWithin, en, sp_houC_f hz]
          · simp (disch := first | assumption | omega | decide) only [x263_0, x263_1, x263_2, x263_3, x263_4, x263_5, x263_6, x263_7, x263_8, x263_9, x263_10, x263_11, x263_12, x263_13, x263_14, x263_15, x263_16, x263_17, x263_18, x263_19, x263_20, x263_21, ↓reduceIte, Option.toList, List.nil_append, List.cons_append, nI_add, pk_mul, n_and, n_or, n_xor, nI_leI, nI_ltI, nI_eq, n_z, uI_s, uI_n, bI_n0, bI_n1, bT, bF, if_true, if_false, not_true, not_false_eq_true, pk_div, pk_rem, Nat.reduceEqDiff, Nat.reduceLeDiff, Nat.reduceLT, Nat.reduceAdd, Nat.reduceMul, Nat.reduceSub, Nat.not_lt_zero, Nat.zero_le, reduceCtorEq, ite_self, n_rem, and_self, and_true, true_and, and_false, false_and, sp_isIn, en, ↓in_t, sp_houM_f hz]
    · by_cases hz : inR z (A 1)
      · obtain ⟨r, hz, rfl⟩ := hz
        rcases en with en | en
        · obtain ⟨n, hn1, hn2, rfl⟩ := en
          obtain ⟨f, hF, hFM, iF⟩ := bel_ex3 (law_ok wA hX)
          obtain ⟨g, hC, hM, iG, hg⟩ := rnt_ex4 (law_ok wA hX)
          have hg' : gB g := hg
          have hm : dyM A n ≤ n ∧ A 8 + dyM A n ≤ 9999 := by
            unfold dyM
            split <;> omega
          obtain ⟨wj, ej, kj⟩ := psN_inv (f := f) tlK_1 hg' wA (dyM A n) hm.2
          obtain ⟨wk, ek, kk⟩ := psN_inv (f := f) tlK_0 hg' wA (dyM A n) hm.2
          have eq := psN_eq iF iG hg' wA (dyM A n) hm.2
          refine ⟨nI (psN tlA f g A (dyM A n) (28 + r)), A, B, w', Nat.le_refl _, ?_, ?_⟩
          · intro I J T cI eM
            obtain ⟨I', h1, h2, h3, h4⟩ := fo_C2 (sc := sc) (d := d + 1) (J := J) (T := T) (n := n) (l2 := nI 1) (l3 := nI r) (l4 := nI 0) (l5 := nI 1) (by omega) hF hC hg' w' cI eM
            refine ⟨I', h3, h1, fun Q => ?_⟩
            have hr2 : r < psN tlA f g A (dyM A n) 1 := by rw [kj 1 (by omega)]; exact hz
            have hr4 : r < 4 := by omega
            simp (disch := first | assumption | omega | decide) only [x131_0, x131_1, x131_2, x131_3, x131_4, x131_5, x131_6, x131_7, x131_8, x131_9, x131_10, x131_11, x131_12, x131_13, x131_14, x131_15, x131_16, x131_17, x131_18, x131_19, x131_20, x131_21, x131_22, x131_23, x131_24, x131_25, x131_26, x131_27, x131_28, x131_29, x131_30, x131_31, ↓reduceIte, Option.toList, List.nil_append, List.cons_append, nI_add, pk_mul, n_and, n_or, n_xor, nI_leI, nI_ltI, nI_eq, n_z, uI_s, uI_n, bI_n0, bI_n1, bT, bF, if_true, if_false, not_true, not_false_eq_true, pk_div, pk_rem, Nat.reduceEqDiff, Nat.reduceLeDiff, Nat.reduceLT, Nat.reduceAdd, Nat.reduceMul, Nat.reduceSub, Nat.not_lt_zero, Nat.zero_le, reduceCtorEq, ite_self, n_rem, and_self, and_true, true_and, and_false, false_and, sp_rumC_ta hz w1 (tw_rumours cI.1), sp_isWithin, ↓in_t, h4]
            simp (disch := first | assumption | omega | decide) only [x131_56, x131_57, x131_58, x131_59, x131_60, x131_61, x131_62, x131_63, x131_64, x131_65, x131_66, x131_67, x131_68, ↓reduceIte, Option.toList, List.nil_append, List.cons_append, nI_add, pk_mul, n_and, n_or, n_xor, nI_leI, nI_ltI, nI_eq, n_z, uI_s, uI_n, bI_n0, bI_n1, bT, bF, if_true, if_false, not_true, not_false_eq_true, pk_div, pk_rem, Nat.reduceEqDiff, Nat.reduceLeDiff, Nat.reduceLT, Nat.reduceAdd, Nat.reduceMul, Nat.reduceSub, Nat.not_lt_zero, Nat.zero_le, reduceCtorEq, ite_self, n_rem, and_self, and_true, true_and, and_false, false_and, tw_purse h2 hr2]
          · intro I J T mI eM
            obtain ⟨I1, J1, h1, h98, h2, h3⟩ := fo_M (sc := sc) (d := d) (J := J) (T := T) (n := n) (l2 := nI 1) (l3 := nI r) hFM hM hg' w' mI eM (by omega)
            have hB : AtM I1 91 B := AtM_c mI.2.1 (fun k => h2 _ _ (by omega))
            obtain ⟨I2, mI2, f2, q2⟩ := fo_E (sc := sc) (d := d + 8) (J := J1) (T := T) (n := n) (l2 := nI 1) (l3 := nI r) (v := nI (psN tlA f g A (dyM A n) (28 + r))) h1 (fun k k1 k2 => by
              by_cases c : 1769 ≤ k
              · exact psN_hi hg' wA c (dyM A n) hm.2
              · exact kk k (by omega)) hB h98
            refine ⟨I2, J1, ⟨fun c k hc => (f2 c k (by omega)).trans (h2 c k (by omega)), fun k hk => (f2 _ _ (by omega)).trans (h2 _ _ (by omega))⟩, mI2, fun Q => ?_⟩
            have ev : I1 90 (28 + r) = nI (psN tlA f g A (dyM A n) (28 + r)) := (h1 _ (by omega)).trans (congrArg nI (eq _ (by omega) (by omega)))
            simp (disch := first | assumption | omega | decide) only [x263_0, x263_1, x263_2, x263_3, x263_4, x263_5, x263_6, x263_7, x263_8, x263_9, x263_10, x263_11, x263_12, x263_13, x263_14, x263_15, x263_16, x263_17, x263_18, x263_19, x263_20, x263_21, ↓reduceIte, Option.toList, List.nil_append, List.cons_append, nI_add, pk_mul, n_and, n_or, n_xor, nI_leI, nI_ltI, nI_eq, n_z, uI_s, uI_n, bI_n0, bI_n1, bT, bF, if_true, if_false, not_true, not_false_eq_true, pk_div, pk_rem, Nat.reduceEqDiff, Nat.reduceLeDiff, Nat.reduceLT, Nat.reduceAdd, Nat.reduceMul, Nat.reduceSub, Nat.not_lt_zero, Nat.zero_le, reduceCtorEq, ite_self, n_rem, and_self, and_true, true_and, and_false, false_and, sp_isIn, ↓in_t, sp_rumM_t hz w1 (mI.1 1 (by decide)), h3]
            rw [x263_42]
            simp (disch := first | assumption | omega | decide) only [x263_43, x263_44, x263_45, x263_46, x263_47, x263_48, x263_49, x263_50, x263_51, x263_52, x263_53, x263_54, x263_55, x263_56, x263_57, x263_58, x263_59, x263_60, x263_61, x263_62, x263_63, x263_64, x263_65, x263_66, x263_67, x263_68, x263_69, x263_70, ↓reduceIte, Option.toList, List.nil_append, List.cons_append, nI_add, pk_mul, n_and, n_or, n_xor, nI_leI, nI_ltI, nI_eq, n_z, uI_s, uI_n, bI_n0, bI_n1, bT, bF, if_true, if_false, not_true, not_false_eq_true, pk_div, pk_rem, Nat.reduceEqDiff, Nat.reduceLeDiff, Nat.reduceLT, Nat.reduceAdd, Nat.reduceMul, Nat.reduceSub, Nat.not_lt_zero, Nat.zero_le, reduceCtorEq, ite_self, n_rem, and_self, and_true, true_and, and_false, false_and, Nat.le_refl, ev, q2]
        · refine jtR w' (-1) ?_ ?_ <;> intro I J T Q hI
          · simp (disch := first | assumption | omega | decide) only [x131_0, x131_1, x131_2, x131_3, x131_4, x131_5, x131_6, x131_7, x131_8, x131_9, x131_10, x131_11, x131_12, x131_13, x131_14, x131_15, x131_16, x131_17, x131_18, x131_19, x131_20, x131_21, x131_22, x131_23, x131_24, x131_25, x131_26, x131_27, x131_28, x131_29, x131_30, x131_31, ↓reduceIte, Option.toList, List.nil_append, List.cons_append, nI_add, pk_mul, n_and, n_or, n_xor, nI_leI, nI_ltI, nI_eq, n_z, uI_s, uI_n, bI_n0, bI_n1, bT, bF, if_true, if_false, not_true, not_false_eq_true, pk_div, pk_rem, Nat.reduceEqDiff, Nat.reduceLeDiff, Nat.reduceLT, Nat.reduceAdd, Nat.reduceMul, Nat.reduceSub, Nat.not_lt_zero, Nat.zero_le, reduceCtorEq, ite_self, n_rem, and_self, and_true, true_and, and_false, false_and, sp_isWithin, en, sp_rumC_ta hz w1 (tw_rumours hI.1)]
          · simp (disch := first | assumption | omega | decide) only [x263_0, x263_1, x263_2, x263_3, x263_4, x263_5, x263_6, x263_7, x263_8, x263_9, x263_10, x263_11, x263_12, x263_13, x263_14, x263_15, x263_16, x263_17, x263_18, x263_19, x263_20, x263_21, ↓reduceIte, Option.toList, List.nil_append, List.cons_append, nI_add, pk_mul, n_and, n_or, n_xor, nI_leI, nI_ltI, nI_eq, n_z, uI_s, uI_n, bI_n0, bI_n1, bT, bF, if_true, if_false, not_true, not_false_eq_true, pk_div, pk_rem, Nat.reduceEqDiff, Nat.reduceLeDiff, Nat.reduceLT, Nat.reduceAdd, Nat.reduceMul, Nat.reduceSub, Nat.not_lt_zero, Nat.zero_le, reduceCtorEq, ite_self, n_rem, and_self, and_true, true_and, and_false, false_and, sp_isIn, en, ↓in_t, sp_rumM_t hz w1 (hI.1 1 (by decide))]
      · rcases en with ⟨n, hn1, hn2, rfl⟩ | en
        · refine jtR w' (-1) ?_ ?_ <;> intro I J T Q hI
          · simp (disch := first | assumption | omega | decide) only [x131_0, x131_1, x131_2, x131_3, x131_4, x131_5, x131_6, x131_7, x131_8, x131_9, x131_10, x131_11, x131_12, x131_13, x131_14, x131_15, x131_16, x131_17, x131_18, x131_19, x131_20, x131_21, x131_22, x131_23, x131_24, x131_25, x131_26, x131_27, x131_28, x131_29, x131_30, x131_31, ↓reduceIte, Option.toList, List.nil_append, List.cons_append, nI_add, pk_mul, n_and, n_or, n_xor, nI_leI, nI_ltI, nI_eq, n_z, uI_s, uI_n, bI_n0, bI_n1, bT, bF, if_true, if_false, not_true, not_false_eq_true, pk_div, pk_rem, Nat.reduceEqDiff, Nat.reduceLeDiff, Nat.reduceLT, Nat.reduceAdd, Nat.reduceMul, Nat.reduceSub, Nat.not_lt_zero, Nat.zero_le, reduceCtorEq, ite_self, n_rem, and_self, and_true, true_and, and_false, false_and, sp_isWithin, ↓in_t, sp_rumC_fa hz w1 (tw_rumours hI.1)]
          · simp (disch := first | assumption | omega | decide) only [x263_0, x263_1, x263_2, x263_3, x263_4, x263_5, x263_6, x263_7, x263_8, x263_9, x263_10, x263_11, x263_12, x263_13, x263_14, x263_15, x263_16, x263_17, x263_18, x263_19, x263_20, x263_21, ↓reduceIte, Option.toList, List.nil_append, List.cons_append, nI_add, pk_mul, n_and, n_or, n_xor, nI_leI, nI_ltI, nI_eq, n_z, uI_s, uI_n, bI_n0, bI_n1, bT, bF, if_true, if_false, not_true, not_false_eq_true, pk_div, pk_rem, Nat.reduceEqDiff, Nat.reduceLeDiff, Nat.reduceLT, Nat.reduceAdd, Nat.reduceMul, Nat.reduceSub, Nat.not_lt_zero, Nat.zero_le, reduceCtorEq, ite_self, n_rem, and_self, and_true, true_and, and_false, false_and, sp_isIn, ↓in_t, sp_rumM_f hz w1 (hI.1 1 (by decide))]
        · refine jtR w' (-1) ?_ ?_ <;> intro I J T Q hI
          · simp (disch := first | assumption | omega | decide) only [x131_0, x131_1, x131_2, x131_3, x131_4, x131_5, x131_6, x131_7, x131_8, x131_9, x131_10, x131_11, x131_12, x131_13, x131_14, x131_15, x131_16, x131_17, x131_18, x131_19, x131_20, x131_21, x131_22, x131_23, x131_24, x131_25, x131_26, x131_27, x131_28, x131_29, x131_30, x131_31, ↓reduceIte, Option.toList, List.nil_append, List.cons_append, nI_add, pk_mul, n_and, n_or, n_xor, nI_leI, nI_ltI, nI_eq, n_z, uI_s, uI_n, bI_n0, bI_n1, bT, bF, if_true, if_false, not_true, not_false_eq_true, pk_div, pk_rem, Nat.reduceEqDiff, Nat.reduceLeDiff, Nat.reduceLT, Nat.reduceAdd, Nat.reduceMul, Nat.reduceSub, Nat.not_lt_zero, Nat.zero_le, reduceCtorEq, ite_self, n_rem, and_self, and_true, true_and, and_false, false_and, sp_isWithin, en, sp_rumC_fa hz w1 (tw_rumours hI.1)]
          · simp (disch := first | assumption | omega | decide) only [x263_0, x263_1, x263_2, x263_3, x263_4, x263_5, x263_6, x263_7, x263_8, x263_9, x263_10, x263_11, x263_12, x263_13, x263_14, x263_15, x263_16, x263_17, x263_18, x263_19, x263_20, x263_21, ↓reduceIte, Option.toList, List.nil_append, List.cons_append, nI_add, pk_mul, n_and, n_or, n_xor, nI_leI, nI_ltI, nI_eq, n_z, uI_s, uI_n, bI_n0, bI_n1, bT, bF, if_true, if_false, not_true, not_false_eq_true, pk_div, pk_rem, Nat.reduceEqDiff, Nat.reduceLeDiff, Nat.reduceLT, Nat.reduceAdd, Nat.reduceMul, Nat.reduceSub, Nat.not_lt_zero, Nat.zero_le, reduceCtorEq, ite_self, n_rem, and_self, and_true, true_and, and_false, false_and, sp_isIn, en, ↓in_t, sp_rumM_f hz w1 (hI.1 1 (by decide))]
  · have y0 : (y = nI 0) = False := inR_n hy (by omega)
    have y1 : (y = nI 1) = False := inR_n hy (by omega)
    rcases en with ⟨n, hn1, hn2, rfl⟩ | en
    · refine jtR w' (-1) ?_ ?_ <;> intro I J T Q hI
      · simp (disch := first | assumption | omega | decide) only [x131_0, x131_1, x131_2, x131_3, x131_4, x131_5, x131_6, x131_7, x131_8, x131_9, x131_10, x131_11, x131_12, x131_13, x131_14, x131_15, x131_16, x131_17, x131_18, x131_19, x131_20, x131_21, x131_22, x131_23, x131_24, x131_25, x131_26, x131_27, x131_28, x131_29, x131_30, x131_31, ↓reduceIte, Option.toList, List.nil_append, List.cons_append, nI_add, pk_mul, n_and, n_or, n_xor, nI_leI, nI_ltI, nI_eq, n_z, uI_s, uI_n, bI_n0, bI_n1, bT, bF, if_true, if_false, not_true, not_false_eq_true, pk_div, pk_rem, Nat.reduceEqDiff, Nat.reduceLeDiff, Nat.reduceLT, Nat.reduceAdd, Nat.reduceMul, Nat.reduceSub, Nat.not_lt_zero, Nat.zero_le, reduceCtorEq, ite_self, n_rem, and_self, and_true, true_and, and_false, false_and, sp_isWithin, ↓in_t, y0, y1]
      · simp (disch := first | assumption | omega | decide) only [x263_0, x263_1, x263_2, x263_3, x263_4, x263_5, x263_6, x263_7, x263_8, x263_9, x263_10, x263_11, x263_12, x263_13, x263_14, x263_15, x263_16, x263_17, x263_18, x263_19, x263_20, x263_21, ↓reduceIte, Option.toList, List.nil_append, List.cons_append, nI_add, pk_mul, n_and, n_or, n_xor, nI_leI, nI_ltI, nI_eq, n_z, uI_s, uI_n, bI_n0, bI_n1, bT, bF, if_true, if_false, not_true, not_false_eq_true, pk_div, pk_rem, Nat.reduceEqDiff, Nat.reduceLeDiff, Nat.reduceLT, Nat.reduceAdd, Nat.reduceMul, Nat.reduceSub, Nat.not_lt_zero, Nat.zero_le, reduceCtorEq, ite_self, n_rem, and_self, and_true, true_and, and_false, false_and, sp_isIn, ↓in_t, ↓in_f hy]
    · refine jtR w' (-1) ?_ ?_ <;> intro I J T Q hI
      · simp (disch := first | assumption | omega | decide) only [x131_0, x131_1, x131_2, x131_3, x131_4, x131_5, x131_6, x131_7, x131_8, x131_9, x131_10, x131_11, x131_12, x131_13, x131_14, x131_15, x131_16, x131_17, x131_18, x131_19, x131_20, x131_21, x131_22, x131_23, x131_24, x131_25, x131_26, x131_27, x131_28, x131_29, x131_30, x131_31, ↓reduceIte, Option.toList, List.nil_append, List.cons_append, nI_add, pk_mul, n_and, n_or, n_xor, nI_leI, nI_ltI, nI_eq, n_z, uI_s, uI_n, bI_n0, bI_n1, bT, bF, if_true, if_false, not_true, not_false_eq_true, pk_div, pk_rem, Nat.reduceEqDiff, Nat.reduceLeDiff, Nat.reduceLT, Nat.reduceAdd, Nat.reduceMul, Nat.reduceSub, Nat.not_lt_zero, Nat.zero_le, reduceCtorEq, ite_self, n_rem, and_self, and_true, true_and, and_false, false_and, sp_isWithin, en, y0, y1]
      · simp (disch := first | assumption | omega | decide) only [x263_0, x263_1, x263_2, x263_3, x263_4, x263_5, x263_6, x263_7, x263_8, x263_9, x263_10, x263_11, x263_12, x263_13, x263_14, x263_15, x263_16, x263_17, x263_18, x263_19, x263_20, x263_21, ↓reduceIte, Option.toList, List.nil_append, List.cons_append, nI_add, pk_mul, n_and, n_or, n_xor, nI_leI, nI_ltI, nI_eq, n_z, uI_s, uI_n, bI_n0, bI_n1, bT, bF, if_true, if_false, not_true, not_false_eq_true, pk_div, pk_rem, Nat.reduceEqDiff, Nat.reduceLeDiff, Nat.reduceLT, Nat.reduceAdd, Nat.reduceMul, Nat.reduceSub, Nat.not_lt_zero, Nat.zero_le, reduceCtorEq, ite_self, n_rem, and_self, and_true, true_and, and_false, false_and, sp_isIn, en]
end Fore2
