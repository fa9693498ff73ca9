/-! a day passes on the reference's side -/
theorem nJ {n : Nat} (h : n < 2 ^ 31) : (nI n).toInt64 = lN n := by
  apply Int64.toInt_inj.mp
  rw [Int32.toInt_toInt64, nI_toInt h, pk_lT (by omega)]
theorem an_e {x : Nat} (hx : x < 30881) : ((nI x).toInt64 * 631 + 497 - ((nI x).toInt64 * 631 + 497) / 30881 * 30881).toInt32 = nI ((x * 631 + 497) % 30881) := by
  have e1 : (nI x).toInt64 * 631 + 497 = lN (x * 631 + 497) := by
    rw [nJ (by omega)]
    show lN x * lN 631 + lN 497 = _
    unfold lN
    rw [← Int64.ofNat_mul, ← Int64.ofNat_add]
  rw [e1, show (30881 : Int64) = lN 30881 from rfl, pk_lRem (by omega) (by omega) (by omega), ← nJ (by have := Nat.mod_lt (x * 631 + 497) (show 0 < 30881 by decide); omega), lg_l2i_i2l]
def FlM (I : Nat → Nat → Int32) (tl : (Nat → Nat) → Nat → Nat → Nat → Nat) : Prop := (I 89 23 = nI 1 ∧ tl = tlA) ∨ (I 89 23 = nI 0 ∧ tl = tkA)
theorem Fl_K {I : Nat → Nat → Int32} {tl : (Nat → Nat) → Nat → Nat → Nat → Nat} (h : FlM I tl) : tlK tl := by
  rcases h with ⟨-, rfl⟩ | ⟨-, rfl⟩
  · exact tlK_1
  · exact tlK_0
theorem or_bit {x y s : Nat} (h : x / 2 ^ s % 2 = 1) : (x ||| y) / 2 ^ s % 2 = 1 := by
  have := Nat.testBit_or x y s
  rw [tb_t h, Bool.true_or, Nat.testBit_eq_decide_div_mod_eq] at this
  exact of_decide_eq_true this
theorem Fl_B {I : Nat → Nat → Int32} {tl : (Nat → Nat) → Nat → Nat → Nat → Nat} {A : Nat → Nat} {h r q s : Nat} (hf : FlM I tl) (hq : q < 8) (hb : A (12 + q) / 2 ^ s % 2 = 1) : tl A h r (12 + q) / 2 ^ s % 2 = 1 := by
  have key : tkA A h r (12 + q) / 2 ^ s % 2 = 1 := by
    by_cases e : q = h
    · subst e
      rw [tkA, upA_s]
      exact or_bit hb
    · rw [tk_o (by omega)]
      exact hb
  rcases hf with ⟨-, rfl⟩ | ⟨-, rfl⟩
  · rw [tlA, wr_o (by omega)]
    exact key
  · exact key
section PassM
variable {sc : Sc} {d : Nat} {T : Option Nat} {M : Nat → Nat → Int32} {tx : Nat} {f : (Nat → Nat) → Nat → Nat → Int32} {g : (Nat → Nat) → Nat → Nat → Nat} {tl : (Nat → Nat) → Nat → Nat → Nat → Nat}
theorem sp_tellM {I : Nat → Nat → Int32} {J : Nat → Nat → Int64} {A : Nat → Nat} {h r : Nat} (w : Wf A) (hh : h < 8) (hr : r < A 1) (m : AtM I 90 A) (e : FlM I tl) : ∃ I', (∀ c k, c ≠ 90 → I' c k = I c k) ∧ AtM I' 90 (tl A h r) ∧ ∀ Q, Rn sc (d + 1) 236 0 [some (.ref 89), some (.int (nI h)), some (.int (nI r))] [] (K0, I, J, R1 T) Q = Q none (K0, I', J, R1 T) := by
  rcases e with ⟨e, rfl⟩ | ⟨e, rfl⟩
  · exact sp_tellM1 w hh hr m e
  · exact ⟨_, fun c k hc => uI_n (by omega), AtM_u m, fun Q => sp_tellM0 w hh hr m e⟩
theorem sp_drawM {I : Nat → Nat → Int32} {J : Nat → Nat → Int64} {A : Nat → Nat} {n : Nat} {Q : Option Value → Mm → Prop} (w : Wf A) (hn : 0 < n) (hn2 : n ≤ 8) (m : AtM I 90 A) : Rn sc (d + 1) 233 0 [some (.ref 89), some (.int (nI n)), none] [] (K0, I, J, R1 T) Q = Q (some (.int (nI (A 9 % n)))) (K0, uI I 90 9 (nI ((A 9 * 631 + 497) % 30881)), J, R1 T) := by
  have m' : ∀ k, k < 1799 → I 90 k = nI (A k) := m
  have w9 : A 9 < 30881 := w.1.2.2.2.2.2.2.2.2.2.1
  have hz : ¬ nI n = 0 := by
    rw [n_z, nI_eq (by omega) (by decide)]
    omega
  simp (disch := first | assumption | omega | decide) only [x233_0, x233_1, x233_2, x233_3, x233_4, x233_5, x233_6, x233_7, x233_8, x233_9, x233_10, x234_0, x234_1, x234_2, x234_3, x234_4, x234_5, x234_6, x234_7, x234_8, x234_9, x234_10, x234_11, x234_12, x234_13, x234_14, x234_15, x234_16, ↓reduceIte, Option.toList, List.nil_append, List.cons_append, nI_add, pk_mul, n_and, n_or, n_xor, nI_leI, nI_ltI, nI_eq, n_z, uI_s, uI_n, bI_n0, bI_n1, bT, bF, if_true, if_false, not_true, not_false_eq_true, pk_div, pk_rem, Nat.reduceEqDiff, Nat.reduceLeDiff, Nat.reduceLT, Nat.reduceAdd, Nat.reduceMul, Nat.reduceSub, Nat.not_lt_zero, Nat.zero_le, reduceCtorEq, ite_self, n_rem, and_self, and_true, true_and, and_false, false_and, m', ↓an_e w9]
theorem sp_payHM {I : Nat → Nat → Int32} {J : Nat → Nat → Int64} {A : Nat → Nat} {r : Nat} (hM : RntM M tx g) (hg : gB g) (w : Wf A) (hr : r < A 1) (hp : A 10 + 99 * 8 < 1000000) (m : AtM I 90 A) (eM : txI I = M) (e3 : A 3 = tx) : ∃ I' J', (∀ c k, c ≠ 90 ∧ c ≠ 95 ∧ c ≠ 97 → I' c k = I c k) ∧ AtM I' 90 (pyH g r A 8) ∧ ∀ Q, Rn sc (d + 7) 240 15 [some (.ref 89), some (.int (nI r)), some (.int (nI 0)), none] [] (K0, I, J, R1 T) Q = Rn sc (d + 7) 240 15 [some (.ref 89), some (.int (nI r)), some (.int (nI 8)), none] [] (K0, I', J', R1 T) Q := by
  have w1 : A 1 ≤ 4 := w.1.2.1
  obtain ⟨⟨I', J'⟩, ⟨h1, h2⟩, h3⟩ := iterE (St := (Nat → Nat → Int32) × (Nat → Nat → Int64)) (fun j s => (∀ c k, c ≠ 90 ∧ c ≠ 95 ∧ c ≠ 97 → s.1 c k = I c k) ∧ AtM s.1 90 (pyH g r A j)) (fun j s => fun Q => Rn sc (d + 7) 240 15 [some (.ref 89), some (.int (nI r)), some (.int (nI j)), none] [] (K0, s.1, s.2, R1 T) Q) 8 (by
    rintro j ⟨I1, J1⟩ hj ⟨f1, a1⟩
    obtain ⟨wj, pj, kj⟩ := pyH_inv hg w hr hp j (by omega)
    have e1 : pyH g r A j 1 = A 1 := kj 1 (Or.inl (by omega))
    have e3' : pyH g r A j 3 = tx := (kj 3 (Or.inl (by omega))).trans e3
    have eM1 : txI I1 = M := (txI_c (fun c k hc => f1 c k (by omega))).trans eM
    have m1 : ∀ k, k < 1799 → I1 90 k = nI (pyH g r A j k) := a1
    have lk := keep_lt wj hj
    rw [pyH]
    unfold pyB
    by_cases c : pyH g r A j (12 + j) / 2 ^ r % 2 = 1
    · obtain ⟨I2, J2, f2, a2, q2⟩ := sp_payM (sc := sc) (d := d) (J := J1) (T := T) hM wj hj (show r < pyH g r A j 1 by omega) (hg _ _ _ wj hj (by omega)) a1 eM1 e3'
      refine ⟨(I2, J2), ⟨fun c k hc => (f2 c k hc).trans (f1 c k hc), by rw [if_pos c]; exact a2⟩, funext fun Q => ?_⟩
      show Rn _ _ _ _ _ _ _ _ = Rn _ _ _ _ _ _ _ _
      rw [x240_15]
      simp (disch := first | assumption | omega | decide) only [x240_0, x240_1, x240_2, x240_3, x240_4, x240_5, x240_6, x240_8, x240_9, x240_10, x240_11, x240_12, x240_13, x240_14, x240_16, x240_17, x240_18, x240_19, x240_20, x240_21, x240_22, x240_23, x240_24, x240_25, x240_26, x240_27, x240_28, x240_29, x240_30, x240_31, x240_32, x240_33, x240_34, x240_35, x240_36, x240_37, x240_38, x240_39, x240_40, x240_41, x240_42, x240_43, x240_44, x240_45, x240_46, x240_47, x240_48, x240_49, x240_50, x240_51, x240_52, x240_53, x240_54, x240_55, x240_56, x240_57, x240_58, x240_59, x240_60, x240_61, x240_63, x240_64, x240_65, x240_66, x240_67, x240_68, x240_69, x240_70, x240_71, x240_72, x240_73, x240_74, x240_75, x240_76, x240_77, x240_78, x240_79, x240_80, x240_81, x240_82, x240_83, x240_84, x240_85, x240_86, x240_87, x240_88, x240_89, x240_90, x240_91, x240_92, x240_93, x240_94, x240_95, x240_96, x240_97, x240_98, x240_99, ↓reduceIte, Option.toList, List.nil_append, List.cons_append, nI_add, pk_mul, n_and, n_or, n_xor, nI_leI, nI_ltI, nI_eq, n_z, uI_s, uI_n, bI_n0, bI_n1, bT, bF, if_true, if_false, not_true, not_false_eq_true, pk_div, pk_rem, Nat.reduceEqDiff, Nat.reduceLeDiff, Nat.reduceLT, Nat.reduceAdd, Nat.reduceMul, Nat.reduceSub, Nat.not_lt_zero, Nat.zero_le, reduceCtorEq, ite_self, n_rem, and_self, and_true, true_and, and_false, false_and, Nat.not_le.mpr hj, m1, sp_has, c, q2]
    · refine ⟨(I1, J1), ⟨f1, by rw [if_neg c]; exact a1⟩, funext fun Q => ?_⟩
      show Rn _ _ _ _ _ _ _ _ = Rn _ _ _ _ _ _ _ _
      rw [x240_15]
      simp (disch := first | assumption | omega | decide) only [x240_0, x240_1, x240_2, x240_3, x240_4, x240_5, x240_6, x240_8, x240_9, x240_10, x240_11, x240_12, x240_13, x240_14, x240_16, x240_17, x240_18, x240_19, x240_20, x240_21, x240_22, x240_23, x240_24, x240_25, x240_26, x240_27, x240_28, x240_29, x240_30, x240_31, x240_32, x240_33, x240_34, x240_35, x240_36, x240_37, x240_38, x240_39, x240_40, x240_41, x240_42, x240_43, x240_44, x240_45, x240_46, x240_47, x240_48, x240_49, x240_50, x240_51, x240_52, x240_53, x240_54, x240_55, x240_56, x240_57, x240_58, x240_59, x240_60, x240_61, x240_63, x240_64, x240_65, x240_66, x240_67, x240_68, x240_69, x240_70, x240_71, x240_72, x240_73, x240_74, x240_75, x240_76, x240_77, x240_78, x240_79, x240_80, x240_81, x240_82, x240_83, x240_84, x240_85, x240_86, x240_87, x240_88, x240_89, x240_90, x240_91, x240_92, x240_93, x240_94, x240_95, x240_96, x240_97, x240_98, x240_99, ↓reduceIte, Option.toList, List.nil_append, List.cons_append, nI_add, pk_mul, n_and, n_or, n_xor, nI_leI, nI_ltI, nI_eq, n_z, uI_s, uI_n, bI_n0, bI_n1, bT, bF, if_true, if_false, not_true, not_false_eq_true, pk_div, pk_rem, Nat.reduceEqDiff, Nat.reduceLeDiff, Nat.reduceLT, Nat.reduceAdd, Nat.reduceMul, Nat.reduceSub, Nat.not_lt_zero, Nat.zero_le, reduceCtorEq, ite_self, n_rem, and_self, and_true, true_and, and_false, false_and, Nat.not_le.mpr hj, m1, sp_has, c]) (I, J) ⟨fun _ _ _ => rfl, m⟩
  exact ⟨I', J', h1, h2, fun Q => congrFun h3 Q⟩
theorem sp_payRM {I : Nat → Nat → Int32} {J : Nat → Nat → Int64} {A : Nat → Nat} (hM : RntM M tx g) (hg : gB g) (w : Wf A) (hp : A 10 = 0) (m : AtM I 90 A) (eM : txI I = M) (e3 : A 3 = tx) : ∃ I' J', (∀ c k, c ≠ 90 ∧ c ≠ 95 ∧ c ≠ 97 → I' c k = I c k) ∧ AtM I' 90 (pyR g A (A 1)) ∧ ∀ Q, Rn sc (d + 7) 240 7 [some (.ref 89), some (.int (nI 0)), u4O 0, none] [] (K0, I, J, R1 T) Q = Rn sc (d + 7) 240 7 [some (.ref 89), some (.int (nI (A 1))), u4O (A 1), none] [] (K0, I', J', R1 T) Q := by
  have w1 : A 1 ≤ 4 := w.1.2.1
  obtain ⟨⟨I', J'⟩, ⟨h1, h2⟩, h3⟩ := iterE (St := (Nat → Nat → Int32) × (Nat → Nat → Int64)) (fun j s => (∀ c k, c ≠ 90 ∧ c ≠ 95 ∧ c ≠ 97 → s.1 c k = I c k) ∧ AtM s.1 90 (pyR g A j)) (fun j s => fun Q => Rn sc (d + 7) 240 7 [some (.ref 89), some (.int (nI j)), u4O j, none] [] (K0, s.1, s.2, R1 T) Q) (A 1) (by
    rintro j ⟨I1, J1⟩ hj ⟨f1, a1⟩
    obtain ⟨wj, pj, kj⟩ := pyR_inv hg w hp j (by omega)
    have e1 : pyR g A j 1 = A 1 := kj 1 (Or.inl (by omega))
    have e3' : pyR g A j 3 = tx := (kj 3 (Or.inl (by omega))).trans e3
    have eM1 : txI I1 = M := (txI_c (fun c k hc => f1 c k (by omega))).trans eM
    have r1 : I1 90 1 = nI (A 1) := by rw [← e1]; exact a1 1 (by decide)
    obtain ⟨I2, J2, f2, a2, q2⟩ := sp_payHM (sc := sc) (d := d) (J := J1) (T := T) (r := j) hM hg wj (by omega) (by omega) a1 eM1 e3'
    refine ⟨(I2, J2), ⟨fun c k hc => (f2 c k hc).trans (f1 c k hc), a2⟩, funext fun Q => ?_⟩
    show Rn _ _ _ _ _ _ _ _ = Rn _ _ _ _ _ _ _ _
    rw [x240_7]
    simp (disch := first | assumption | omega | decide) only [x240_0, x240_1, x240_2, x240_3, x240_4, x240_5, x240_6, x240_8, x240_9, x240_10, x240_11, x240_12, x240_13, x240_14, x240_16, x240_17, x240_18, x240_19, x240_20, x240_21, x240_22, x240_23, x240_24, x240_25, x240_26, x240_27, x240_28, x240_29, x240_30, x240_31, x240_32, x240_33, x240_34, x240_35, x240_36, x240_37, x240_38, x240_39, x240_40, x240_41, x240_42, x240_43, x240_44, x240_45, x240_46, x240_47, x240_48, x240_49, x240_50, x240_51, x240_52, x240_53, x240_54, x240_55, x240_56, x240_57, x240_58, x240_59, x240_60, x240_61, x240_63, x240_64, x240_65, x240_66, x240_67, x240_68, x240_69, x240_70, x240_71, x240_72, x240_73, x240_74, x240_75, x240_76, x240_77, x240_78, x240_79, x240_80, x240_81, x240_82, x240_83, x240_84, x240_85, x240_86, x240_87, x240_88, x240_89, x240_90, x240_91, x240_92, x240_93, x240_94, x240_95, x240_96, x240_97, x240_98, x240_99, ↓reduceIte, Option.toList, List.nil_append, List.cons_append, nI_add, pk_mul, n_and, n_or, n_xor, nI_leI, nI_ltI, nI_eq, n_z, uI_s, uI_n, bI_n0, bI_n1, bT, bF, if_true, if_false, not_true, not_false_eq_true, pk_div, pk_rem, Nat.reduceEqDiff, Nat.reduceLeDiff, Nat.reduceLT, Nat.reduceAdd, Nat.reduceMul, Nat.reduceSub, Nat.not_lt_zero, Nat.zero_le, reduceCtorEq, ite_self, n_rem, and_self, and_true, true_and, and_false, false_and, r1, Nat.not_le.mpr hj]
    rw [q2, x240_15]
    simp (disch := first | assumption | omega | decide) only [x240_0, x240_1, x240_2, x240_3, x240_4, x240_5, x240_6, x240_8, x240_9, x240_10, x240_11, x240_12, x240_13, x240_14, x240_16, x240_17, x240_18, x240_19, x240_20, x240_21, x240_22, x240_23, x240_24, x240_25, x240_26, x240_27, x240_28, x240_29, x240_30, x240_31, x240_32, x240_33, x240_34, x240_35, x240_36, x240_37, x240_38, x240_39, x240_40, x240_41, x240_42, x240_43, x240_44, x240_45, x240_46, x240_47, x240_48, x240_49, x240_50, x240_51, x240_52, x240_53, x240_54, x240_55, x240_56, x240_57, x240_58, x240_59, x240_60, x240_61, x240_63, x240_64, x240_65, x240_66, x240_67, x240_68, x240_69, x240_70, x240_71, x240_72, x240_73, x240_74, x240_75, x240_76, x240_77, x240_78, x240_79, x240_80, x240_81, x240_82, x240_83, x240_84, x240_85, x240_86, x240_87, x240_88, x240_89, x240_90, x240_91, x240_92, x240_93, x240_94, x240_95, x240_96, x240_97, x240_98, x240_99, ↓reduceIte, Option.toList, List.nil_append, List.cons_append, nI_add, pk_mul, n_and, n_or, n_xor, nI_leI, nI_ltI, nI_eq, n_z, uI_s, uI_n, bI_n0, bI_n1, bT, bF, if_true, if_false, not_true, not_false_eq_true, pk_div, pk_rem, Nat.reduceEqDiff, Nat.reduceLeDiff, Nat.reduceLT, Nat.reduceAdd, Nat.reduceMul, Nat.reduceSub, Nat.not_lt_zero, Nat.zero_le, reduceCtorEq, ite_self, n_rem, and_self, and_true, true_and, and_false, false_and]
    rfl) (I, J) ⟨fun _ _ _ => rfl, m⟩
  exact ⟨I', J', h1, h2, fun Q => congrFun h3 Q⟩
theorem sp_hearM {I : Nat → Nat → Int32} {J : Nat → Nat → Int64} {A : Nat → Nat} {q s : Nat} (hF : BelM M tx f) (hl : FlM I tl) (w : Wf A) (hq : q < 8) (hs : s < A 1) (hb : A (12 + q) / 2 ^ s % 2 = 1) (m : AtM I 90 A) (eM : txI I = M) (e3 : A 3 = tx) : ∃ I' J', (∀ c k, c ≠ 90 ∧ c ≠ 95 ∧ c ≠ 97 → I' c k = I c k) ∧ AtM I' 90 (hrN tl f (bes A q) s A 8) ∧ ∀ Q, Rn sc (d + 7) 240 62 [some (.ref 89), some (.int (nI q)), some (.int (nI s)), some (.int (nI 0))] [] (K0, I, J, R1 T) Q = Rn sc (d + 7) 240 62 [some (.ref 89), some (.int (nI q)), some (.int (nI s)), some (.int (nI 8))] [] (K0, I', J', R1 T) Q := by
  have w1 : A 1 ≤ 4 := w.1.2.1
  have hk := Fl_K hl
  obtain ⟨⟨I', J'⟩, ⟨h1, h2, -⟩, h3⟩ := iterE (St := (Nat → Nat → Int32) × (Nat → Nat → Int64)) (fun j s' => (∀ c k, c ≠ 90 ∧ c ≠ 95 ∧ c ≠ 97 → s'.1 c k = I c k) ∧ AtM s'.1 90 (hrN tl f (bes A q) s A j) ∧ hrN tl f (bes A q) s A j (12 + q) / 2 ^ s % 2 = 1) (fun j s' => fun Q => Rn sc (d + 7) 240 62 [some (.ref 89), some (.int (nI q)), some (.int (nI s)), some (.int (nI j))] [] (K0, s'.1, s'.2, R1 T) Q) 8 (by
    rintro j ⟨I1, J1⟩ hj ⟨f1, a1, b1⟩
    obtain ⟨wj, kj⟩ := hr_inv (f := f) (hs := bes A q) hk w hs j (by omega)
    have e1 : hrN tl f (bes A q) s A j 1 = A 1 := kj 1 (by omega) (by omega) (by omega)
    have e3' : hrN tl f (bes A q) s A j 3 = tx := (kj 3 (by omega) (by omega) (by omega)).trans e3
    have eb : bes (hrN tl f (bes A q) s A j) q = bes A q := bes_c (fun k hk => kj k (by omega) (by omega) (by omega)) w.1.1
    have lb : bes A q < 256 := bes_lt w
    have eM1 : txI I1 = M := (txI_c (fun c k hc => f1 c k (by omega))).trans eM
    have m1 : ∀ k, k < 1799 → I1 90 k = nI (hrN tl f (bes A q) s A j k) := a1
    have lk := keep_lt wj hq
    have sb := fun Q => sp_besM (Q := Q) (sc := sc) (d := d + 6) (J := J1) (T := T) (u2 := none) (u3 := none) hq wj a1
    rw [eb] at sb
    by_cases c : bes A q / 2 ^ j % 2 = 1
    · obtain ⟨I2, J2, f2, q2⟩ := sp_canM (sc := sc) (d := d) (J := J1) (T := T) hF wj hj (show s < hrN tl f (bes A q) s A j 1 by omega) a1 eM1 e3'
      have a2 : AtM I2 90 (hrN tl f (bes A q) s A j) := AtM_c a1 (fun k => f2 _ _ (by omega))
      cases hc : canB f (hrN tl f (bes A q) s A j) j s
      · rw [hc] at q2
        have ez : hrN tl f (bes A q) s A (j + 1) = hrN tl f (bes A q) s A j := by
          rw [hrN]
          unfold hrB
          rw [if_neg (by rw [hc]; simp)]
        rw [ez]
        refine ⟨(I2, J2), ⟨fun c k hc => (f2 c k (by omega)).trans (f1 c k hc), a2, b1⟩, funext fun Q => ?_⟩
        show Rn _ _ _ _ _ _ _ _ = Rn _ _ _ _ _ _ _ _
        rw [x240_62]
        simp (disch := first | assumption | omega | decide) only [x240_0, x240_1, x240_2, x240_3, x240_4, x240_5, x240_6, x240_8, x240_9, x240_10, x240_11, x240_12, x240_13, x240_14, x240_16, x240_17, x240_18, x240_19, x240_20, x240_21, x240_22, x240_23, x240_24, x240_25, x240_26, x240_27, x240_28, x240_29, x240_30, x240_31, x240_32, x240_33, x240_34, x240_35, x240_36, x240_37, x240_38, x240_39, x240_40, x240_41, x240_42, x240_43, x240_44, x240_45, x240_46, x240_47, x240_48, x240_49, x240_50, x240_51, x240_52, x240_53, x240_54, x240_55, x240_56, x240_57, x240_58, x240_59, x240_60, x240_61, x240_63, x240_64, x240_65, x240_66, x240_67, x240_68, x240_69, x240_70, x240_71, x240_72, x240_73, x240_74, x240_75, x240_76, x240_77, x240_78, x240_79, x240_80, x240_81, x240_82, x240_83, x240_84, x240_85, x240_86, x240_87, x240_88, x240_89, x240_90, x240_91, x240_92, x240_93, x240_94, x240_95, x240_96, x240_97, x240_98, x240_99, ↓reduceIte, Option.toList, List.nil_append, List.cons_append, nI_add, pk_mul, n_and, n_or, n_xor, nI_leI, nI_ltI, nI_eq, n_z, uI_s, uI_n, bI_n0, bI_n1, bT, bF, if_true, if_false, not_true, not_false_eq_true, pk_div, pk_rem, Nat.reduceEqDiff, Nat.reduceLeDiff, Nat.reduceLT, Nat.reduceAdd, Nat.reduceMul, Nat.reduceSub, Nat.not_lt_zero, Nat.zero_le, reduceCtorEq, ite_self, n_rem, and_self, and_true, true_and, and_false, false_and, Nat.not_le.mpr hj, m1, sp_has, b1, sb, c, q2, show bo false = nI 0 from rfl]
      · rw [hc] at q2
        have ez : hrN tl f (bes A q) s A (j + 1) = tl (hrN tl f (bes A q) s A j) j s := by
          rw [hrN]
          unfold hrB
          rw [if_pos ⟨c, hc⟩]
        have hl2 : FlM I2 tl := by
          unfold FlM at hl ⊢
          rw [f2 _ _ (by omega), f1 _ _ (by omega)]
          exact hl
        obtain ⟨I3, f3, a3, q3⟩ := sp_tellM (sc := sc) (d := d + 5) (J := J2) (T := T) wj hj (show s < hrN tl f (bes A q) s A j 1 by omega) a2 hl2
        rw [ez]
        refine ⟨(I3, J2), ⟨fun c k hc => (f3 c k (by omega)).trans ((f2 c k (by omega)).trans (f1 c k hc)), a3, Fl_B hl hq b1⟩, funext fun Q => ?_⟩
        show Rn _ _ _ _ _ _ _ _ = Rn _ _ _ _ _ _ _ _
        rw [x240_62]
        simp (disch := first | assumption | omega | decide) only [x240_0, x240_1, x240_2, x240_3, x240_4, x240_5, x240_6, x240_8, x240_9, x240_10, x240_11, x240_12, x240_13, x240_14, x240_16, x240_17, x240_18, x240_19, x240_20, x240_21, x240_22, x240_23, x240_24, x240_25, x240_26, x240_27, x240_28, x240_29, x240_30, x240_31, x240_32, x240_33, x240_34, x240_35, x240_36, x240_37, x240_38, x240_39, x240_40, x240_41, x240_42, x240_43, x240_44, x240_45, x240_46, x240_47, x240_48, x240_49, x240_50, x240_51, x240_52, x240_53, x240_54, x240_55, x240_56, x240_57, x240_58, x240_59, x240_60, x240_61, x240_63, x240_64, x240_65, x240_66, x240_67, x240_68, x240_69, x240_70, x240_71, x240_72, x240_73, x240_74, x240_75, x240_76, x240_77, x240_78, x240_79, x240_80, x240_81, x240_82, x240_83, x240_84, x240_85, x240_86, x240_87, x240_88, x240_89, x240_90, x240_91, x240_92, x240_93, x240_94, x240_95, x240_96, x240_97, x240_98, x240_99, ↓reduceIte, Option.toList, List.nil_append, List.cons_append, nI_add, pk_mul, n_and, n_or, n_xor, nI_leI, nI_ltI, nI_eq, n_z, uI_s, uI_n, bI_n0, bI_n1, bT, bF, if_true, if_false, not_true, not_false_eq_true, pk_div, pk_rem, Nat.reduceEqDiff, Nat.reduceLeDiff, Nat.reduceLT, Nat.reduceAdd, Nat.reduceMul, Nat.reduceSub, Nat.not_lt_zero, Nat.zero_le, reduceCtorEq, ite_self, n_rem, and_self, and_true, true_and, and_false, false_and, Nat.not_le.mpr hj, m1, sp_has, b1, sb, c, q2, show bo true = nI 1 from rfl, q3]
    · have ez : hrN tl f (bes A q) s A (j + 1) = hrN tl f (bes A q) s A j := by
        rw [hrN]
        unfold hrB
        rw [if_neg (fun h => c h.1)]
      rw [ez]
      refine ⟨(I1, J1), ⟨f1, a1, b1⟩, funext fun Q => ?_⟩
      show Rn _ _ _ _ _ _ _ _ = Rn _ _ _ _ _ _ _ _
      rw [x240_62]
      simp (disch := first | assumption | omega | decide) only [x240_0, x240_1, x240_2, x240_3, x240_4, x240_5, x240_6, x240_8, x240_9, x240_10, x240_11, x240_12, x240_13, x240_14, x240_16, x240_17, x240_18, x240_19, x240_20, x240_21, x240_22, x240_23, x240_24, x240_25, x240_26, x240_27, x240_28, x240_29, x240_30, x240_31, x240_32, x240_33, x240_34, x240_35, x240_36, x240_37, x240_38, x240_39, x240_40, x240_41, x240_42, x240_43, x240_44, x240_45, x240_46, x240_47, x240_48, x240_49, x240_50, x240_51, x240_52, x240_53, x240_54, x240_55, x240_56, x240_57, x240_58, x240_59, x240_60, x240_61, x240_63, x240_64, x240_65, x240_66, x240_67, x240_68, x240_69, x240_70, x240_71, x240_72, x240_73, x240_74, x240_75, x240_76, x240_77, x240_78, x240_79, x240_80, x240_81, x240_82, x240_83, x240_84, x240_85, x240_86, x240_87, x240_88, x240_89, x240_90, x240_91, x240_92, x240_93, x240_94, x240_95, x240_96, x240_97, x240_98, x240_99, ↓reduceIte, Option.toList, List.nil_append, List.cons_append, nI_add, pk_mul, n_and, n_or, n_xor, nI_leI, nI_ltI, nI_eq, n_z, uI_s, uI_n, bI_n0, bI_n1, bT, bF, if_true, if_false, not_true, not_false_eq_true, pk_div, pk_rem, Nat.reduceEqDiff, Nat.reduceLeDiff, Nat.reduceLT, Nat.reduceAdd, Nat.reduceMul, Nat.reduceSub, Nat.not_lt_zero, Nat.zero_le, reduceCtorEq, ite_self, n_rem, and_self, and_true, true_and, and_false, false_and, Nat.not_le.mpr hj, m1, sp_has, b1, sb, c]) (I, J) ⟨fun _ _ _ => rfl, m, hb⟩
  exact ⟨I', J', h1, h2, fun Q => congrFun h3 Q⟩
theorem sp_hearM0 {I : Nat → Nat → Int32} {J : Nat → Nat → Int64} {A : Nat → Nat} {q s : Nat} {Q : Option Value → Mm → Prop} (w : Wf A) (hq : q < 8) (hs : s < A 1) (hb : ¬ A (12 + q) / 2 ^ s % 2 = 1) (m : AtM I 90 A) : Rn sc (d + 7) 240 62 [some (.ref 89), some (.int (nI q)), some (.int (nI s)), some (.int (nI 0))] [] (K0, I, J, R1 T) Q = Rn sc (d + 7) 240 62 [some (.ref 89), some (.int (nI q)), some (.int (nI s)), some (.int (nI 8))] [] (K0, I, J, R1 T) Q := by
  have w1 : A 1 ≤ 4 := w.1.2.1
  have m1 : ∀ k, k < 1799 → I 90 k = nI (A k) := m
  have lk := keep_lt w hq
  exact iter0 (fun j => Rn sc (d + 7) 240 62 [some (.ref 89), some (.int (nI q)), some (.int (nI s)), some (.int (nI j))] [] (K0, I, J, R1 T) Q) 8 (by
    intro j hj
    show Rn _ _ _ _ _ _ _ _ = Rn _ _ _ _ _ _ _ _
    rw [x240_62]
    simp (disch := first | assumption | omega | decide) only [x240_0, x240_1, x240_2, x240_3, x240_4, x240_5, x240_6, x240_8, x240_9, x240_10, x240_11, x240_12, x240_13, x240_14, x240_16, x240_17, x240_18, x240_19, x240_20, x240_21, x240_22, x240_23, x240_24, x240_25, x240_26, x240_27, x240_28, x240_29, x240_30, x240_31, x240_32, x240_33, x240_34, x240_35, x240_36, x240_37, x240_38, x240_39, x240_40, x240_41, x240_42, x240_43, x240_44, x240_45, x240_46, x240_47, x240_48, x240_49, x240_50, x240_51, x240_52, x240_53, x240_54, x240_55, x240_56, x240_57, x240_58, x240_59, x240_60, x240_61, x240_63, x240_64, x240_65, x240_66, x240_67, x240_68, x240_69, x240_70, x240_71, x240_72, x240_73, x240_74, x240_75, x240_76, x240_77, x240_78, x240_79, x240_80, x240_81, x240_82, x240_83, x240_84, x240_85, x240_86, x240_87, x240_88, x240_89, x240_90, x240_91, x240_92, x240_93, x240_94, x240_95, x240_96, x240_97, x240_98, x240_99, ↓reduceIte, Option.toList, List.nil_append, List.cons_append, nI_add, pk_mul, n_and, n_or, n_xor, nI_leI, nI_ltI, nI_eq, n_z, uI_s, uI_n, bI_n0, bI_n1, bT, bF, if_true, if_false, not_true, not_false_eq_true, pk_div, pk_rem, Nat.reduceEqDiff, Nat.reduceLeDiff, Nat.reduceLT, Nat.reduceAdd, Nat.reduceMul, Nat.reduceSub, Nat.not_lt_zero, Nat.zero_le, reduceCtorEq, ite_self, n_rem, and_self, and_true, true_and, and_false, false_and, Nat.not_le.mpr hj, m1, sp_has, hb])
theorem sp_passM {I : Nat → Nat → Int32} {J : Nat → Nat → Int64} {A : Nat → Nat} (hF : BelM M tx f) (hM : RntM M tx g) (hg : gB g) (hl : FlM I tl) (w : Wf A) (m : AtM I 90 A) (eM : txI I = M) (e3 : A 3 = tx) : ∃ I' J', (∀ c k, c ≠ 90 ∧ c ≠ 95 ∧ c ≠ 97 ∧ (c ≠ 89 ∨ k ≠ 24) → I' c k = I c k) ∧ I' 89 24 = I 89 24 + nI (p1A g A 10) ∧ AtM I' 90 (psA tl f g A) ∧ ∀ Q, Rn sc (d + 7) 240 0 [some (.ref 89), none, none, none] [] (K0, I, J, R1 T) Q = Q none (K0, I', J', R1 T) := by
  have w1 : A 1 ≤ 4 := w.1.2.1
  have w8 : A 8 ≤ 9999 := w.1.2.2.2.2.2.2.2.2.1
  obtain ⟨I1, J1, f1, a1, q1⟩ := sp_payRM (sc := sc) (d := d) (J := J) (T := T) hM hg (up10_W w) upA_s (AtM_u (v := 0) m) ((txI_c (fun c k hc => uI_n (by omega))).trans eM) ((upA_n (by omega)).trans e3)
  rw [upA_n (show 1 ≠ 10 by omega)] at a1 q1
  obtain ⟨wp, pp, kp⟩ := p1_inv hg w
  have g1 : ∀ c k, c ≠ 90 ∧ c ≠ 95 ∧ c ≠ 97 → I1 c k = I c k := fun c k hc => (f1 c k hc).trans (uI_n (by omega))
  have e1 : p1A g A 1 = A 1 := kp 1 (Or.inl (by omega))
  have m1 : ∀ k, k < 1799 → I1 90 k = nI (p1A g A k) := a1
  obtain ⟨Ir, eR⟩ : ∃ X, X = uI I1 89 24 (I 89 24 + nI (p1A g A 10)) := ⟨_, rfl⟩
  have ar : AtM Ir 90 (p1A g A) := AtM_c a1 (fun k => by rw [eR, uI_n (by omega)])
  have mr : ∀ k, k < 1799 → Ir 90 k = nI (p1A g A k) := ar
  have er : Ir 89 24 = I 89 24 + nI (p1A g A 10) := by rw [eR, uI_s]
  have gr : ∀ c k, c ≠ 90 ∧ c ≠ 95 ∧ c ≠ 97 ∧ (c ≠ 89 ∨ k ≠ 24) → Ir c k = I c k := fun c k hc => by rw [eR, uI_n (by omega)]; exact g1 c k (by omega)
  have g24 : I1 89 24 = I 89 24 := g1 _ _ (by omega)
  by_cases c0 : A 1 = 0
  · refine ⟨uI Ir 90 8 (nI (A 8 + 1)), J1, fun c k hc => (uI_n (by omega)).trans (gr c k hc), (uI_n (by omega)).trans er, ?_, fun Q => ?_⟩
    · unfold psA p4A
      rw [if_pos c0]
      exact AtM_u ar
    · have q1' := q1 Q
      have e8 : p1A g A 8 = A 8 := kp 8 (Or.inl (by omega))
      simp (disch := first | assumption | omega | decide) only [x240_0, x240_1, x240_2, x240_3, x240_4, x240_5, x240_6, x240_8, x240_9, x240_10, x240_11, x240_12, x240_13, x240_14, x240_16, x240_17, x240_18, x240_19, x240_20, x240_21, x240_22, x240_23, x240_24, x240_25, x240_26, x240_27, x240_28, x240_29, x240_30, x240_31, x240_32, x240_33, x240_34, x240_35, x240_36, x240_37, x240_38, x240_39, x240_40, x240_41, x240_42, x240_43, x240_44, x240_45, x240_46, x240_47, x240_48, x240_49, x240_50, x240_51, x240_52, x240_53, x240_54, x240_55, x240_56, x240_57, x240_58, x240_59, x240_60, x240_61, x240_63, x240_64, x240_65, x240_66, x240_67, x240_68, x240_69, x240_70, x240_71, x240_72, x240_73, x240_74, x240_75, x240_76, x240_77, x240_78, x240_79, x240_80, x240_81, x240_82, x240_83, x240_84, x240_85, x240_86, x240_87, x240_88, x240_89, x240_90, x240_91, x240_92, x240_93, x240_94, x240_95, x240_96, x240_97, x240_98, x240_99, ↓reduceIte, Option.toList, List.nil_append, List.cons_append, nI_add, pk_mul, n_and, n_or, n_xor, nI_leI, nI_ltI, nI_eq, n_z, uI_s, uI_n, bI_n0, bI_n1, bT, bF, if_true, if_false, not_true, not_false_eq_true, pk_div, pk_rem, Nat.reduceEqDiff, Nat.reduceLeDiff, Nat.reduceLT, Nat.reduceAdd, Nat.reduceMul, Nat.reduceSub, Nat.not_lt_zero, Nat.zero_le, reduceCtorEq, ite_self, n_rem, and_self, and_true, true_and, and_false, false_and]
      refine Eq.trans q1' ?_
      rw [x240_7]
      simp (disch := first | assumption | omega | decide) only [x240_0, x240_1, x240_2, x240_3, x240_4, x240_5, x240_6, x240_8, x240_9, x240_10, x240_11, x240_12, x240_13, x240_14, x240_16, x240_17, x240_18, x240_19, x240_20, x240_21, x240_22, x240_23, x240_24, x240_25, x240_26, x240_27, x240_28, x240_29, x240_30, x240_31, x240_32, x240_33, x240_34, x240_35, x240_36, x240_37, x240_38, x240_39, x240_40, x240_41, x240_42, x240_43, x240_44, x240_45, x240_46, x240_47, x240_48, x240_49, x240_50, x240_51, x240_52, x240_53, x240_54, x240_55, x240_56, x240_57, x240_58, x240_59, x240_60, x240_61, x240_63, x240_64, x240_65, x240_66, x240_67, x240_68, x240_69, x240_70, x240_71, x240_72, x240_73, x240_74, x240_75, x240_76, x240_77, x240_78, x240_79, x240_80, x240_81, x240_82, x240_83, x240_84, x240_85, x240_86, x240_87, x240_88, x240_89, x240_90, x240_91, x240_92, x240_93, x240_94, x240_95, x240_96, x240_97, x240_98, x240_99, ↓reduceIte, Option.toList, List.nil_append, List.cons_append, nI_add, pk_mul, n_and, n_or, n_xor, nI_leI, nI_ltI, nI_eq, n_z, uI_s, uI_n, bI_n0, bI_n1, bT, bF, if_true, if_false, not_true, not_false_eq_true, pk_div, pk_rem, Nat.reduceEqDiff, Nat.reduceLeDiff, Nat.reduceLT, Nat.reduceAdd, Nat.reduceMul, Nat.reduceSub, Nat.not_lt_zero, Nat.zero_le, reduceCtorEq, ite_self, n_rem, and_self, and_true, true_and, and_false, false_and, m1, e1, c0, Nat.le_refl, g24, eR.symm, mr, e8]
  · have c0' : ¬ A 1 ≤ 0 := by omega
    obtain ⟨w3, k3⟩ := p3_inv hg w
    have k31 : p3A g A 1 = A 1 := k3 1 (by unfold pyK; omega) (by omega)
    have hq : psQ g A < 8 := Nat.mod_lt _ (by decide)
    have hs : psR g A < A 1 := Nat.mod_lt _ (by omega)
    have hs3 : psR g A < p3A g A 1 := by omega
    have sd1 := fun Q => sp_drawM (Q := Q) (sc := sc) (d := d + 5) (J := J1) (T := T) (n := 8) wp (by omega) (by omega) ar
    obtain ⟨I2, eI2⟩ : ∃ X, X = uI Ir 90 9 (nI ((p1A g A 9 * 631 + 497) % 30881)) := ⟨_, rfl⟩
    rw [← eI2] at sd1
    have a2 : AtM I2 90 (drA (p1A g A)) := by rw [eI2]; exact AtM_u ar
    have sd2 := fun Q => sp_drawM (Q := Q) (sc := sc) (d := d + 5) (J := J1) (T := T) (n := A 1) (dr_W wp) (by omega) (by omega) a2
    obtain ⟨I3, eI3⟩ : ∃ X, X = uI I2 90 9 (nI ((drA (p1A g A) 9 * 631 + 497) % 30881)) := ⟨_, rfl⟩
    rw [← eI3] at sd2
    have a3 : AtM I3 90 (p3A g A) := by rw [eI3]; exact AtM_u a2
    have m2 : I2 90 1 = nI (A 1) := by rw [eI2, uI_n (by omega), mr 1 (by decide), e1]
    have g3 : ∀ c k, c ≠ 90 ∧ c ≠ 95 ∧ c ≠ 97 ∧ (c ≠ 89 ∨ k ≠ 24) → I3 c k = I c k := fun c k hc => by rw [eI3, uI_n (by omega), eI2, uI_n (by omega)]; exact gr c k hc
    have er3 : I3 89 24 = I 89 24 + nI (p1A g A 10) := by rw [eI3, uI_n (by omega), eI2, uI_n (by omega)]; exact er
    have b1 : p1A g A 9 % 8 = psQ g A := rfl
    have b2 : drA (p1A g A) 9 % A 1 = psR g A := rfl
    rw [b1] at sd1
    rw [b2] at sd2
    have e33 : p3A g A 3 = tx := (k3 3 (by unfold pyK; omega) (by omega)).trans e3
    have e38 : p3A g A 8 = A 8 := k3 8 (by unfold pyK; omega) (by omega)
    have eM3 : txI I3 = M := (txI_c (fun c k hc => g3 c k (by omega))).trans eM
    have hl3 : FlM I3 tl := by
      unfold FlM at hl ⊢
      rw [g3 _ _ (by omega)]
      exact hl
    by_cases cb : p3A g A (12 + psQ g A) / 2 ^ psR g A % 2 = 1
    · obtain ⟨I4, J4, f4, a4, q4⟩ := sp_hearM (sc := sc) (d := d) (J := J1) (T := T) hF hl3 w3 hq hs3 cb a3 eM3 e33
      obtain ⟨w4, k4⟩ := hr_inv (f := f) (hs := bes (p3A g A) (psQ g A)) (Fl_K hl) w3 hs3 8 (by omega)
      have e48 : I4 90 8 = nI (A 8) := by rw [a4 8 (by decide), k4 8 (by omega) (by omega) (by omega), e38]
      refine ⟨uI I4 90 8 (nI (A 8 + 1)), J4, fun c k hc => (uI_n (by omega)).trans ((f4 c k (by omega)).trans (g3 c k hc)), (uI_n (by omega)).trans ((f4 _ _ (by omega)).trans er3), ?_, fun Q => ?_⟩
      · unfold psA p4A psH
        rw [if_neg c0, if_pos cb]
        exact AtM_u a4
      · have q1' := q1 Q
        have q4' := q4 Q
        simp (disch := first | assumption | omega | decide) only [x240_0, x240_1, x240_2, x240_3, x240_4, x240_5, x240_6, x240_8, x240_9, x240_10, x240_11, x240_12, x240_13, x240_14, x240_16, x240_17, x240_18, x240_19, x240_20, x240_21, x240_22, x240_23, x240_24, x240_25, x240_26, x240_27, x240_28, x240_29, x240_30, x240_31, x240_32, x240_33, x240_34, x240_35, x240_36, x240_37, x240_38, x240_39, x240_40, x240_41, x240_42, x240_43, x240_44, x240_45, x240_46, x240_47, x240_48, x240_49, x240_50, x240_51, x240_52, x240_53, x240_54, x240_55, x240_56, x240_57, x240_58, x240_59, x240_60, x240_61, x240_63, x240_64, x240_65, x240_66, x240_67, x240_68, x240_69, x240_70, x240_71, x240_72, x240_73, x240_74, x240_75, x240_76, x240_77, x240_78, x240_79, x240_80, x240_81, x240_82, x240_83, x240_84, x240_85, x240_86, x240_87, x240_88, x240_89, x240_90, x240_91, x240_92, x240_93, x240_94, x240_95, x240_96, x240_97, x240_98, x240_99, ↓reduceIte, Option.toList, List.nil_append, List.cons_append, nI_add, pk_mul, n_and, n_or, n_xor, nI_leI, nI_ltI, nI_eq, n_z, uI_s, uI_n, bI_n0, bI_n1, bT, bF, if_true, if_false, not_true, not_false_eq_true, pk_div, pk_rem, Nat.reduceEqDiff, Nat.reduceLeDiff, Nat.reduceLT, Nat.reduceAdd, Nat.reduceMul, Nat.reduceSub, Nat.not_lt_zero, Nat.zero_le, reduceCtorEq, ite_self, n_rem, and_self, and_true, true_and, and_false, false_and]
        refine Eq.trans q1' ?_
        rw [x240_7]
        simp (disch := first | assumption | omega | decide) only [x240_0, x240_1, x240_2, x240_3, x240_4, x240_5, x240_6, x240_8, x240_9, x240_10, x240_11, x240_12, x240_13, x240_14, x240_16, x240_17, x240_18, x240_19, x240_20, x240_21, x240_22, x240_23, x240_24, x240_25, x240_26, x240_27, x240_28, x240_29, x240_30, x240_31, x240_32, x240_33, x240_34, x240_35, x240_36, x240_37, x240_38, x240_39, x240_40, x240_41, x240_42, x240_43, x240_44, x240_45, x240_46, x240_47, x240_48, x240_49, x240_50, x240_51, x240_52, x240_53, x240_54, x240_55, x240_56, x240_57, x240_58, x240_59, x240_60, x240_61, x240_63, x240_64, x240_65, x240_66, x240_67, x240_68, x240_69, x240_70, x240_71, x240_72, x240_73, x240_74, x240_75, x240_76, x240_77, x240_78, x240_79, x240_80, x240_81, x240_82, x240_83, x240_84, x240_85, x240_86, x240_87, x240_88, x240_89, x240_90, x240_91, x240_92, x240_93, x240_94, x240_95, x240_96, x240_97, x240_98, x240_99, ↓reduceIte, Option.toList, List.nil_append, List.cons_append, nI_add, pk_mul, n_and, n_or, n_xor, nI_leI, nI_ltI, nI_eq, n_z, uI_s, uI_n, bI_n0, bI_n1, bT, bF, if_true, if_false, not_true, not_false_eq_true, pk_div, pk_rem, Nat.reduceEqDiff, Nat.reduceLeDiff, Nat.reduceLT, Nat.reduceAdd, Nat.reduceMul, Nat.reduceSub, Nat.not_lt_zero, Nat.zero_le, reduceCtorEq, ite_self, n_rem, and_self, and_true, true_and, and_false, false_and, m1, e1, c0', Nat.le_refl, g24, eR.symm, mr, sd1, m2, sd2]
        refine Eq.trans q4' ?_
        rw [x240_62]
        simp (disch := first | assumption | omega | decide) only [x240_0, x240_1, x240_2, x240_3, x240_4, x240_5, x240_6, x240_8, x240_9, x240_10, x240_11, x240_12, x240_13, x240_14, x240_16, x240_17, x240_18, x240_19, x240_20, x240_21, x240_22, x240_23, x240_24, x240_25, x240_26, x240_27, x240_28, x240_29, x240_30, x240_31, x240_32, x240_33, x240_34, x240_35, x240_36, x240_37, x240_38, x240_39, x240_40, x240_41, x240_42, x240_43, x240_44, x240_45, x240_46, x240_47, x240_48, x240_49, x240_50, x240_51, x240_52, x240_53, x240_54, x240_55, x240_56, x240_57, x240_58, x240_59, x240_60, x240_61, x240_63, x240_64, x240_65, x240_66, x240_67, x240_68, x240_69, x240_70, x240_71, x240_72, x240_73, x240_74, x240_75, x240_76, x240_77, x240_78, x240_79, x240_80, x240_81, x240_82, x240_83, x240_84, x240_85, x240_86, x240_87, x240_88, x240_89, x240_90, x240_91, x240_92, x240_93, x240_94, x240_95, x240_96, x240_97, x240_98, x240_99, ↓reduceIte, Option.toList, List.nil_append, List.cons_append, nI_add, pk_mul, n_and, n_or, n_xor, nI_leI, nI_ltI, nI_eq, n_z, uI_s, uI_n, bI_n0, bI_n1, bT, bF, if_true, if_false, not_true, not_false_eq_true, pk_div, pk_rem, Nat.reduceEqDiff, Nat.reduceLeDiff, Nat.reduceLT, Nat.reduceAdd, Nat.reduceMul, Nat.reduceSub, Nat.not_lt_zero, Nat.zero_le, reduceCtorEq, ite_self, n_rem, and_self, and_true, true_and, and_false, false_and, e48]
    · have q4 := fun Q => sp_hearM0 (Q := Q) (sc := sc) (d := d) (J := J1) (T := T) w3 hq hs3 cb a3
      have e48 : I3 90 8 = nI (A 8) := by rw [a3 8 (by decide), e38]
      refine ⟨uI I3 90 8 (nI (A 8 + 1)), J1, fun c k hc => (uI_n (by omega)).trans (g3 c k hc), (uI_n (by omega)).trans er3, ?_, fun Q => ?_⟩
      · unfold psA p4A psH
        rw [if_neg c0, if_neg cb, hr_0]
        exact AtM_u a3
      · have q1' := q1 Q
        have q4' := q4 Q
        simp (disch := first | assumption | omega | decide) only [x240_0, x240_1, x240_2, x240_3, x240_4, x240_5, x240_6, x240_8, x240_9, x240_10, x240_11, x240_12, x240_13, x240_14, x240_16, x240_17, x240_18, x240_19, x240_20, x240_21, x240_22, x240_23, x240_24, x240_25, x240_26, x240_27, x240_28, x240_29, x240_30, x240_31, x240_32, x240_33, x240_34, x240_35, x240_36, x240_37, x240_38, x240_39, x240_40, x240_41, x240_42, x240_43, x240_44, x240_45, x240_46, x240_47, x240_48, x240_49, x240_50, x240_51, x240_52, x240_53, x240_54, x240_55, x240_56, x240_57, x240_58, x240_59, x240_60, x240_61, x240_63, x240_64, x240_65, x240_66, x240_67, x240_68, x240_69, x240_70, x240_71, x240_72, x240_73, x240_74, x240_75, x240_76, x240_77, x240_78, x240_79, x240_80, x240_81, x240_82, x240_83, x240_84, x240_85, x240_86, x240_87, x240_88, x240_89, x240_90, x240_91, x240_92, x240_93, x240_94, x240_95, x240_96, x240_97, x240_98, x240_99, ↓reduceIte, Option.toList, List.nil_append, List.cons_append, nI_add, pk_mul, n_and, n_or, n_xor, nI_leI, nI_ltI, nI_eq, n_z, uI_s, uI_n, bI_n0, bI_n1, bT, bF, if_true, if_false, not_true, not_false_eq_true, pk_div, pk_rem, Nat.reduceEqDiff, Nat.reduceLeDiff, Nat.reduceLT, Nat.reduceAdd, Nat.reduceMul, Nat.reduceSub, Nat.not_lt_zero, Nat.zero_le, reduceCtorEq, ite_self, n_rem, and_self, and_true, true_and, and_false, false_and]
        refine Eq.trans q1' ?_
        rw [x240_7]
        simp (disch := first | assumption | omega | decide) only [x240_0, x240_1, x240_2, x240_3, x240_4, x240_5, x240_6, x240_8, x240_9, x240_10, x240_11, x240_12, x240_13, x240_14, x240_16, x240_17, x240_18, x240_19, x240_20, x240_21, x240_22, x240_23, x240_24, x240_25, x240_26, x240_27, x240_28, x240_29, x240_30, x240_31, x240_32, x240_33, x240_34, x240_35, x240_36, x240_37, x240_38, x240_39, x240_40, x240_41, x240_42, x240_43, x240_44, x240_45, x240_46, x240_47, x240_48, x240_49, x240_50, x240_51, x240_52, x240_53, x240_54, x240_55, x240_56, x240_57, x240_58, x240_59, x240_60, x240_61, x240_63, x240_64, x240_65, x240_66, x240_67, x240_68, x240_69, x240_70, x240_71, x240_72, x240_73, x240_74, x240_75, x240_76, x240_77, x240_78, x240_79, x240_80, x240_81, x240_82, x240_83, x240_84, x240_85, x240_86, x240_87, x240_88, x240_89, x240_90, x240_91, x240_92, x240_93, x240_94, x240_95, x240_96, x240_97, x240_98, x240_99, ↓reduceIte, Option.toList, List.nil_append, List.cons_append, nI_add, pk_mul, n_and, n_or, n_xor, nI_leI, nI_ltI, nI_eq, n_z, uI_s, uI_n, bI_n0, bI_n1, bT, bF, if_true, if_false, not_true, not_false_eq_true, pk_div, pk_rem, Nat.reduceEqDiff, Nat.reduceLeDiff, Nat.reduceLT, Nat.reduceAdd, Nat.reduceMul, Nat.reduceSub, Nat.not_lt_zero, Nat.zero_le, reduceCtorEq, ite_self, n_rem, and_self, and_true, true_and, and_false, false_and, m1, e1, c0', Nat.le_refl, g24, eR.symm, mr, sd1, m2, sd2]
        refine Eq.trans q4' ?_
        rw [x240_62]
        simp (disch := first | assumption | omega | decide) only [x240_0, x240_1, x240_2, x240_3, x240_4, x240_5, x240_6, x240_8, x240_9, x240_10, x240_11, x240_12, x240_13, x240_14, x240_16, x240_17, x240_18, x240_19, x240_20, x240_21, x240_22, x240_23, x240_24, x240_25, x240_26, x240_27, x240_28, x240_29, x240_30, x240_31, x240_32, x240_33, x240_34, x240_35, x240_36, x240_37, x240_38, x240_39, x240_40, x240_41, x240_42, x240_43, x240_44, x240_45, x240_46, x240_47, x240_48, x240_49, x240_50, x240_51, x240_52, x240_53, x240_54, x240_55, x240_56, x240_57, x240_58, x240_59, x240_60, x240_61, x240_63, x240_64, x240_65, x240_66, x240_67, x240_68, x240_69, x240_70, x240_71, x240_72, x240_73, x240_74, x240_75, x240_76, x240_77, x240_78, x240_79, x240_80, x240_81, x240_82, x240_83, x240_84, x240_85, x240_86, x240_87, x240_88, x240_89, x240_90, x240_91, x240_92, x240_93, x240_94, x240_95, x240_96, x240_97, x240_98, x240_99, ↓reduceIte, Option.toList, List.nil_append, List.cons_append, nI_add, pk_mul, n_and, n_or, n_xor, nI_leI, nI_ltI, nI_eq, n_z, uI_s, uI_n, bI_n0, bI_n1, bT, bF, if_true, if_false, not_true, not_false_eq_true, pk_div, pk_rem, Nat.reduceEqDiff, Nat.reduceLeDiff, Nat.reduceLT, Nat.reduceAdd, Nat.reduceMul, Nat.reduceSub, Nat.not_lt_zero, Nat.zero_le, reduceCtorEq, ite_self, n_rem, and_self, and_true, true_and, and_false, false_and, e48]
end PassM
