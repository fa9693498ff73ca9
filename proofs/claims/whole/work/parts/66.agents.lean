/-! agents -/
def nrN (A : Nat → Nat) (n h : Nat) : Nat → Nat
  | 0 => 0
  | g + 1 => nrN A n h g ||| (if ds A h g ≤ n then 2 ^ g else 0)
def cvN (A : Nat → Nat) (n s : Nat) : Nat → Nat
  | 0 => 0
  | h + 1 => cvN A n s h ||| (if s / 2 ^ h % 2 = 1 then nrN A n h 8 else 0)
abbrev PA (A : Nat → Nat) (n s : Nat) : Prop := cvN A n s 8 = 255
theorem nr_b {A : Nat → Nat} {n h g : Nat} : ∀ j, (nrN A n h j).testBit g = true ↔ g < j ∧ ds A h g ≤ n
  | 0 => by
    rw [nrN, Nat.zero_testBit]
    constructor
    · intro h; cases h
    · rintro ⟨h, -⟩; omega
  | j + 1 => by
    rw [nrN, Nat.testBit_or, Bool.or_eq_true, nr_b j]
    constructor
    · rintro (h1 | h1)
      · exact ⟨by omega, h1.2⟩
      · by_cases c : ds A h j ≤ n
        · rw [if_pos c, Nat.testBit_two_pow, decide_eq_true_eq] at h1
          subst h1
          exact ⟨by omega, c⟩
        · rw [if_neg c, Nat.zero_testBit] at h1
          cases h1
    · rintro ⟨h1, h2⟩
      by_cases e : g = j
      · subst e
        right
        rw [if_pos h2, Nat.testBit_two_pow, decide_eq_true rfl]
      · exact Or.inl ⟨by omega, h2⟩
theorem nr_lt {A : Nat → Nat} {n h : Nat} : ∀ j, j ≤ 8 → nrN A n h j < 256
  | 0, _ => by rw [nrN]; decide
  | j + 1, hj => by
    rw [nrN]
    apply Nat.or_lt_two_pow (n := 8)
    · exact nr_lt j (by omega)
    · split
      · exact p2_lt (by omega)
      · decide
theorem cv_lt {A : Nat → Nat} {n s : Nat} : ∀ j, cvN A n s j < 256
  | 0 => by rw [cvN]; decide
  | j + 1 => by
    rw [cvN]
    apply Nat.or_lt_two_pow (n := 8)
    · exact cv_lt j
    · split
      · exact nr_lt 8 (by omega)
      · decide
theorem cv_b {A : Nat → Nat} {n s g : Nat} : ∀ j, (∃ h, h < j ∧ s.testBit h = true ∧ (nrN A n h 8).testBit g = true) → (cvN A n s j).testBit g = true
  | 0, ⟨h, h1, _⟩ => by omega
  | j + 1, ⟨h, h1, h2, h3⟩ => by
    rw [cvN, Nat.testBit_or, Bool.or_eq_true]
    by_cases e : h = j
    · subst e
      right
      rw [if_pos (tb_iff.mpr h2)]
      exact h3
    · exact Or.inl (cv_b j ⟨h, by omega, h2, h3⟩)
theorem PA_255 {A : Nat → Nat} {n : Nat} : PA A n 255 := by
  apply Nat.eq_of_testBit_eq
  intro i
  by_cases hi : i < 8
  · rw [t255 i hi]
    exact cv_b 8 ⟨i, hi, t255 i hi, (nr_b 8).mpr ⟨hi, by rw [ds_s]; omega⟩⟩
  · have z : ∀ x, x < 256 → x.testBit i = false := fun x hx => by
      cases c : x.testBit i
      · rfl
      · exact absurd (tb_lt hx c) hi
    rw [z _ (cv_lt 8), z 255 (by decide)]
theorem cv_0 {A : Nat → Nat} {n : Nat} : ∀ j, cvN A n 0 j = 0
  | 0 => rfl
  | j + 1 => by
    rw [cvN, cv_0 j, Nat.zero_div, if_neg (by decide)]
    rfl
theorem PA_0 {A : Nat → Nat} {n : Nat} : ¬ PA A n 0 := by
  show ¬ cvN A n 0 8 = 255
  rw [cv_0]
  decide
theorem PA_h0 {A : Nat → Nat} {n t : Nat} (ht : t < 256) (_ : PA A n t) : pcN t < pcN 255 ∨ t = 255 := sub_pc ht (by decide) (fun i hi => t255 i (tb_lt ht hi))
theorem nr_is {m n : Nat} (hn : n < 8) : bI (nI 0 ≤ dvD m ∧ dvD m ≤ nI n) = bI (m ≤ n) := by
  by_cases c : m < 8
  · rw [dvD_t c]
    by_cases c2 : m ≤ n
    · rw [in_t (by omega) c2 (by omega), bI_t c2]
    · rw [in_h (by omega) (by omega), bI_f c2]
  · rw [dvD_f c, bI_f (show ¬ (nI 0 ≤ (-1 : Int32) ∧ (-1 : Int32) ≤ nI n) from fun h => absurd h.1 (by decide)), bI_f (show ¬ m ≤ n by omega)]
section Agents
variable {TX : (Nat → Nat → Int32) → Nat → Prop} {sc : Sc} {d : Nat}
theorem sp_nearAll {I : Nat → Nat → Int32} {J : Nat → Nat → Int64} {T : Option Nat} {A : Nat → Nat} {s n : Nat} (hs : s < 256) (hn : n < 8) (e : ∀ a h, a < 8 → h < 8 → I 73 (a * 8 + h) = dvD (ds A a h)) : ∀ Q, Rn sc (d + 1) 82 0 [some (.ref 72), some (.int (nI s)), some (.int (nI n)), none, none, none, none] [] (K0, I, J, R1 T) Q = Q (some (.int (bI (cvN A n s 8 = 255)))) (K0, I, J, R1 T) := by
  intro Q
  obtain ⟨⟨u5, u6⟩, -, h3⟩ := iterE (St := Option Value × Option Value) (fun (_ : Nat) _ => True) (fun h u => Rn sc (d + 1) 82 4 [some (.ref 72), some (.int (nI s)), some (.int (nI n)), some (.int (nI (cvN A n s h))), some (.int (nI h)), u.1, u.2] [] (K0, I, J, R1 T) Q) 8 (by
    rintro h ⟨u5, u6⟩ hh -
    have lh : ¬ 8 ≤ h := by omega
    by_cases c : s / 2 ^ h % 2 = 1
    · obtain ⟨u, -, h4⟩ := iterE (St := Option Value) (fun (_ : Nat) _ => True) (fun j u => Rn sc (d + 1) 82 9 [some (.ref 72), some (.int (nI s)), some (.int (nI n)), some (.int (nI (cvN A n s h ||| nrN A n h j))), some (.int (nI h)), some (.int (nI j)), u] [] (K0, I, J, R1 T) Q) 8 (by
        rintro j u hj -
        have lj : ¬ 8 ≤ j := by omega
        refine ⟨some (.int (dvD (ds A h j))), trivial, ?_⟩
        show Rn _ _ _ _ _ _ _ _ = Rn _ _ _ _ _ _ _ _
        rw [x82_9, nrN, ← Nat.or_assoc]
        by_cases c8 : ds A h j < 8
        · have ed := dvD_t c8
          by_cases c2 : ds A h j ≤ n
          · have c2' : ¬ n < ds A h j := by omega
            rw [if_pos c2]
            simp (disch := first | assumption | omega | decide) only [x82_0, x82_1, x82_2, x82_3, x82_5, x82_6, x82_7, x82_8, x82_10, x82_11, x82_12, x82_13, x82_14, x82_15, x82_16, x82_17, x82_18, x82_19, x82_20, x82_21, x82_22, x82_23, x82_24, x82_25, x82_26, x82_27, x82_28, x82_29, x82_30, x82_31, x82_32, x82_33, x82_34, x82_35, x82_36, x82_37, x82_38, x82_39, x82_40, x82_41, x82_42, x82_43, x82_44, x82_45, x82_46, ↓reduceIte, Option.toList, List.nil_append, List.cons_append, nI_add, pk_mul, n_and, n_or, n_xor, nI_leI, nI_ltI, nI_eq, n_z, uI_s, uI_n, bI_n0, bI_n1, bT, bF, if_true, if_false, not_true, not_false_eq_true, pk_div, pk_rem, Nat.reduceEqDiff, Nat.reduceLeDiff, Nat.reduceLT, Nat.reduceAdd, Nat.reduceMul, Nat.reduceSub, Nat.not_lt_zero, Nat.zero_le, reduceCtorEq, ite_self, n_rem, and_self, and_true, true_and, and_false, false_and, lj, n_bit, c, sp_dist hh hj e, ed, n_m1e (show ds A h j < 2 ^ 31 by omega), c2', n_one]
          · have c2' : n < ds A h j := by omega
            rw [if_neg c2, Nat.or_zero]
            simp (disch := first | assumption | omega | decide) only [x82_0, x82_1, x82_2, x82_3, x82_5, x82_6, x82_7, x82_8, x82_10, x82_11, x82_12, x82_13, x82_14, x82_15, x82_16, x82_17, x82_18, x82_19, x82_20, x82_21, x82_22, x82_23, x82_24, x82_25, x82_26, x82_27, x82_28, x82_29, x82_30, x82_31, x82_32, x82_33, x82_34, x82_35, x82_36, x82_37, x82_38, x82_39, x82_40, x82_41, x82_42, x82_43, x82_44, x82_45, x82_46, ↓reduceIte, Option.toList, List.nil_append, List.cons_append, nI_add, pk_mul, n_and, n_or, n_xor, nI_leI, nI_ltI, nI_eq, n_z, uI_s, uI_n, bI_n0, bI_n1, bT, bF, if_true, if_false, not_true, not_false_eq_true, pk_div, pk_rem, Nat.reduceEqDiff, Nat.reduceLeDiff, Nat.reduceLT, Nat.reduceAdd, Nat.reduceMul, Nat.reduceSub, Nat.not_lt_zero, Nat.zero_le, reduceCtorEq, ite_self, n_rem, and_self, and_true, true_and, and_false, false_and, lj, n_bit, c, sp_dist hh hj e, ed, n_m1e (show ds A h j < 2 ^ 31 by omega), c2']
        · have ed := dvD_f c8
          rw [if_neg (show ¬ ds A h j ≤ n by omega), Nat.or_zero]
          simp (disch := first | assumption | omega | decide) only [x82_0, x82_1, x82_2, x82_3, x82_5, x82_6, x82_7, x82_8, x82_10, x82_11, x82_12, x82_13, x82_14, x82_15, x82_16, x82_17, x82_18, x82_19, x82_20, x82_21, x82_22, x82_23, x82_24, x82_25, x82_26, x82_27, x82_28, x82_29, x82_30, x82_31, x82_32, x82_33, x82_34, x82_35, x82_36, x82_37, x82_38, x82_39, x82_40, x82_41, x82_42, x82_43, x82_44, x82_45, x82_46, ↓reduceIte, Option.toList, List.nil_append, List.cons_append, nI_add, pk_mul, n_and, n_or, n_xor, nI_leI, nI_ltI, nI_eq, n_z, uI_s, uI_n, bI_n0, bI_n1, bT, bF, if_true, if_false, not_true, not_false_eq_true, pk_div, pk_rem, Nat.reduceEqDiff, Nat.reduceLeDiff, Nat.reduceLT, Nat.reduceAdd, Nat.reduceMul, Nat.reduceSub, Nat.not_lt_zero, Nat.zero_le, reduceCtorEq, ite_self, n_rem, and_self, and_true, true_and, and_false, false_and, lj, n_bit, c, sp_dist hh hj e, ed]) u6 trivial
      refine ⟨(some (.int (nI 8)), u), trivial, ?_⟩
      show Rn _ _ _ _ _ _ _ _ = Rn _ _ _ _ _ _ _ _
      have h4 : Rn sc (d + 1) 82 9 [some (.ref 72), some (.int (nI s)), some (.int (nI n)), some (.int (nI (cvN A n s h ||| 0))), some (.int (nI h)), some (.int (nI 0)), u6] [] (K0, I, J, R1 T) Q = Rn _ _ _ _ _ _ _ _ := h4
      rw [Nat.or_zero] at h4
      rw [x82_4, cvN, if_pos c]
      simp (disch := first | assumption | omega | decide) only [x82_5, x82_6, x82_7, x82_8, ↓reduceIte, Option.toList, List.nil_append, List.cons_append, nI_add, pk_mul, n_and, n_or, n_xor, nI_leI, nI_ltI, nI_eq, n_z, uI_s, uI_n, bI_n0, bI_n1, bT, bF, if_true, if_false, not_true, not_false_eq_true, pk_div, pk_rem, Nat.reduceEqDiff, Nat.reduceLeDiff, Nat.reduceLT, Nat.reduceAdd, Nat.reduceMul, Nat.reduceSub, Nat.not_lt_zero, Nat.zero_le, reduceCtorEq, ite_self, n_rem, and_self, and_true, true_and, and_false, false_and, lh]
      rw [h4, x82_9]
      simp (disch := first | assumption | omega | decide) only [x82_10, x82_11, x82_12, x82_13, x82_14, x82_15, x82_16, x82_17, x82_18, x82_19, x82_20, x82_21, x82_22, x82_23, x82_24, x82_25, x82_26, x82_27, x82_28, x82_29, x82_30, x82_31, x82_32, x82_33, x82_34, x82_35, x82_36, x82_37, x82_38, x82_39, ↓reduceIte, Option.toList, List.nil_append, List.cons_append, nI_add, pk_mul, n_and, n_or, n_xor, nI_leI, nI_ltI, nI_eq, n_z, uI_s, uI_n, bI_n0, bI_n1, bT, bF, if_true, if_false, not_true, not_false_eq_true, pk_div, pk_rem, Nat.reduceEqDiff, Nat.reduceLeDiff, Nat.reduceLT, Nat.reduceAdd, Nat.reduceMul, Nat.reduceSub, Nat.not_lt_zero, Nat.zero_le, reduceCtorEq, ite_self, n_rem, and_self, and_true, true_and, and_false, false_and, Nat.le_refl]
    · refine ⟨(some (.int (nI 0)), u6), trivial, ?_⟩
      show Rn _ _ _ _ _ _ _ _ = Rn _ _ _ _ _ _ _ _
      rw [x82_4, cvN, if_neg c, Nat.or_zero]
      simp (disch := first | assumption | omega | decide) only [x82_5, x82_6, x82_7, x82_8, ↓reduceIte, Option.toList, List.nil_append, List.cons_append, nI_add, pk_mul, n_and, n_or, n_xor, nI_leI, nI_ltI, nI_eq, n_z, uI_s, uI_n, bI_n0, bI_n1, bT, bF, if_true, if_false, not_true, not_false_eq_true, pk_div, pk_rem, Nat.reduceEqDiff, Nat.reduceLeDiff, Nat.reduceLT, Nat.reduceAdd, Nat.reduceMul, Nat.reduceSub, Nat.not_lt_zero, Nat.zero_le, reduceCtorEq, ite_self, n_rem, and_self, and_true, true_and, and_false, false_and, lh]
      rw [x82_9]
      simp (disch := first | assumption | omega | decide) only [x82_10, x82_11, x82_12, x82_13, x82_14, x82_15, x82_16, x82_17, x82_18, x82_19, x82_20, x82_21, x82_22, x82_23, x82_24, x82_25, x82_26, x82_27, x82_28, x82_29, x82_30, x82_31, x82_32, x82_33, x82_34, x82_35, x82_36, x82_37, x82_38, x82_39, ↓reduceIte, Option.toList, List.nil_append, List.cons_append, nI_add, pk_mul, n_and, n_or, n_xor, nI_leI, nI_ltI, nI_eq, n_z, uI_s, uI_n, bI_n0, bI_n1, bT, bF, if_true, if_false, not_true, not_false_eq_true, pk_div, pk_rem, Nat.reduceEqDiff, Nat.reduceLeDiff, Nat.reduceLT, Nat.reduceAdd, Nat.reduceMul, Nat.reduceSub, Nat.not_lt_zero, Nat.zero_le, reduceCtorEq, ite_self, n_rem, and_self, and_true, true_and, and_false, false_and, n_bit, c]) (none, none) trivial
  simp (disch := first | assumption | omega | decide) only [x82_0, x82_1, x82_2, x82_3, ↓reduceIte, Option.toList, List.nil_append, List.cons_append, nI_add, pk_mul, n_and, n_or, n_xor, nI_leI, nI_ltI, nI_eq, n_z, uI_s, uI_n, bI_n0, bI_n1, bT, bF, if_true, if_false, not_true, not_false_eq_true, pk_div, pk_rem, Nat.reduceEqDiff, Nat.reduceLeDiff, Nat.reduceLT, Nat.reduceAdd, Nat.reduceMul, Nat.reduceSub, Nat.not_lt_zero, Nat.zero_le, reduceCtorEq, ite_self, n_rem, and_self, and_true, true_and, and_false, false_and]
  refine Eq.trans h3 ?_
  show Rn _ _ _ _ _ _ _ _ = _
  have lc := cv_lt (A := A) (n := n) (s := s) 8
  rw [x82_4]
  by_cases c : cvN A n s 8 = 255
  · rw [bI_t c]
    simp (disch := first | assumption | omega | decide) only [x82_5, x82_6, x82_40, x82_41, x82_42, x82_43, x82_44, x82_45, x82_46, ↓reduceIte, Option.toList, List.nil_append, List.cons_append, nI_add, pk_mul, n_and, n_or, n_xor, nI_leI, nI_ltI, nI_eq, n_z, uI_s, uI_n, bI_n0, bI_n1, bT, bF, if_true, if_false, not_true, not_false_eq_true, pk_div, pk_rem, Nat.reduceEqDiff, Nat.reduceLeDiff, Nat.reduceLT, Nat.reduceAdd, Nat.reduceMul, Nat.reduceSub, Nat.not_lt_zero, Nat.zero_le, reduceCtorEq, ite_self, n_rem, and_self, and_true, true_and, and_false, false_and, Nat.le_refl, c]
  · rw [bI_f c]
    simp (disch := first | assumption | omega | decide) only [x82_5, x82_6, x82_40, x82_41, x82_42, x82_43, x82_44, x82_45, x82_46, ↓reduceIte, Option.toList, List.nil_append, List.cons_append, nI_add, pk_mul, n_and, n_or, n_xor, nI_leI, nI_ltI, nI_eq, n_z, uI_s, uI_n, bI_n0, bI_n1, bT, bF, if_true, if_false, not_true, not_false_eq_true, pk_div, pk_rem, Nat.reduceEqDiff, Nat.reduceLeDiff, Nat.reduceLT, Nat.reduceAdd, Nat.reduceMul, Nat.reduceSub, Nat.not_lt_zero, Nat.zero_le, reduceCtorEq, ite_self, n_rem, and_self, and_true, true_and, and_false, false_and, Nat.le_refl, c]
theorem sp_setW {I : Nat → Nat → Int32} {J : Nat → Nat → Int64} {T : Option Nat} {A : Nat → Nat} {n : Nat} (hn : n < 8) (e : ∀ a h, a < 8 → h < 8 → I 73 (a * 8 + h) = dvD (ds A a h)) : ∀ Q, Rn sc (d + 2) 81 0 [some (.ref 72), some (.int (nI n)), none, none] [] (K0, I, J, R1 T) Q = Q (some (.int (nI (upN (PA A n) 255 256)))) (K0, I, J, R1 T) := by
  intro Q
  have e1 : upN (PA A n) 255 (1 + 0) = 255 := by
    show (if pcN 0 < pcN 255 ∧ PA A n 0 then 0 else 255) = 255
    rw [if_neg (fun h => PA_0 h.2)]
  have hi := iter0 (fun j => Rn sc (d + 2) 81 4 [some (.ref 72), some (.int (nI n)), some (.int (nI (upN (PA A n) 255 (1 + j)))), some (.int (nI (1 + j)))] [] (K0, I, J, R1 T) Q) 255 (by
    intro j hj
    show Rn _ _ _ _ _ _ _ _ = Rn _ _ _ _ _ _ _ _
    obtain ⟨s, es⟩ : ∃ s, s = 1 + j := ⟨_, rfl⟩
    rw [show 1 + (j + 1) = s + 1 by omega, ← es]
    have hs : s < 256 := by omega
    obtain ⟨h1, h2, -, -⟩ := up_inv (P := PA A n) (by decide) PA_255 (fun t ht h => PA_h0 ht h) s (by omega)
    have ls : ¬ 256 ≤ s := by omega
    have l1 := pc_8 _ hs
    have l2 := pc_8 _ h2
    have bs := fun Q => sp_bitCount (Q := Q) (sc := sc) (d := d + 1) (I := I) (J := J) (T := T) hs
    have bb := fun Q => sp_bitCount (Q := Q) (sc := sc) (d := d + 1) (I := I) (J := J) (T := T) h2
    have na := sp_nearAll (sc := sc) (d := d) (J := J) (T := T) hs hn e
    rw [x81_4, upN]
    by_cases c1 : pcN s < pcN (upN (PA A n) 255 s)
    · have c1' : ¬ pcN (upN (PA A n) 255 s) ≤ pcN s := by omega
      by_cases c2 : cvN A n s 8 = 255
      · rw [if_pos ⟨c1, c2⟩]
        simp (disch := first | assumption | omega | decide) only [x81_0, x81_1, x81_2, x81_3, x81_5, x81_6, x81_7, x81_8, x81_9, x81_10, x81_11, x81_12, x81_13, x81_14, x81_15, x81_16, x81_17, x81_18, x81_19, x81_20, x81_21, x81_22, ↓reduceIte, Option.toList, List.nil_append, List.cons_append, nI_add, pk_mul, n_and, n_or, n_xor, nI_leI, nI_ltI, nI_eq, n_z, uI_s, uI_n, bI_n0, bI_n1, bT, bF, if_true, if_false, not_true, not_false_eq_true, pk_div, pk_rem, Nat.reduceEqDiff, Nat.reduceLeDiff, Nat.reduceLT, Nat.reduceAdd, Nat.reduceMul, Nat.reduceSub, Nat.not_lt_zero, Nat.zero_le, reduceCtorEq, ite_self, n_rem, and_self, and_true, true_and, and_false, false_and, ls, bs, bb, c1', na, c2]
      · rw [if_neg (fun h => c2 h.2)]
        simp (disch := first | assumption | omega | decide) only [x81_0, x81_1, x81_2, x81_3, x81_5, x81_6, x81_7, x81_8, x81_9, x81_10, x81_11, x81_12, x81_13, x81_14, x81_15, x81_16, x81_17, x81_18, x81_19, x81_20, x81_21, x81_22, ↓reduceIte, Option.toList, List.nil_append, List.cons_append, nI_add, pk_mul, n_and, n_or, n_xor, nI_leI, nI_ltI, nI_eq, n_z, uI_s, uI_n, bI_n0, bI_n1, bT, bF, if_true, if_false, not_true, not_false_eq_true, pk_div, pk_rem, Nat.reduceEqDiff, Nat.reduceLeDiff, Nat.reduceLT, Nat.reduceAdd, Nat.reduceMul, Nat.reduceSub, Nat.not_lt_zero, Nat.zero_le, reduceCtorEq, ite_self, n_rem, and_self, and_true, true_and, and_false, false_and, ls, bs, bb, c1', na, c2]
    · have c1' : pcN (upN (PA A n) 255 s) ≤ pcN s := by omega
      rw [if_neg (fun h => c1 h.1)]
      simp (disch := first | assumption | omega | decide) only [x81_0, x81_1, x81_2, x81_3, x81_5, x81_6, x81_7, x81_8, x81_9, x81_10, x81_11, x81_12, x81_13, x81_14, x81_15, x81_16, x81_17, x81_18, x81_19, x81_20, x81_21, x81_22, ↓reduceIte, Option.toList, List.nil_append, List.cons_append, nI_add, pk_mul, n_and, n_or, n_xor, nI_leI, nI_ltI, nI_eq, n_z, uI_s, uI_n, bI_n0, bI_n1, bT, bF, if_true, if_false, not_true, not_false_eq_true, pk_div, pk_rem, Nat.reduceEqDiff, Nat.reduceLeDiff, Nat.reduceLT, Nat.reduceAdd, Nat.reduceMul, Nat.reduceSub, Nat.not_lt_zero, Nat.zero_le, reduceCtorEq, ite_self, n_rem, and_self, and_true, true_and, and_false, false_and, ls, bs, bb, c1'])
  rw [e1] at hi
  simp (disch := first | assumption | omega | decide) only [x81_0, x81_1, x81_2, x81_3, ↓reduceIte, Option.toList, List.nil_append, List.cons_append, nI_add, pk_mul, n_and, n_or, n_xor, nI_leI, nI_ltI, nI_eq, n_z, uI_s, uI_n, bI_n0, bI_n1, bT, bF, if_true, if_false, not_true, not_false_eq_true, pk_div, pk_rem, Nat.reduceEqDiff, Nat.reduceLeDiff, Nat.reduceLT, Nat.reduceAdd, Nat.reduceMul, Nat.reduceSub, Nat.not_lt_zero, Nat.zero_le, reduceCtorEq, ite_self, n_rem, and_self, and_true, true_and, and_false, false_and]
  refine Eq.trans hi ?_
  show Rn _ _ _ _ _ _ _ _ = _
  rw [x81_4]
  simp (disch := first | assumption | omega | decide) only [x81_5, x81_6, x81_21, x81_22, ↓reduceIte, Option.toList, List.nil_append, List.cons_append, nI_add, pk_mul, n_and, n_or, n_xor, nI_leI, nI_ltI, nI_eq, n_z, uI_s, uI_n, bI_n0, bI_n1, bT, bF, if_true, if_false, not_true, not_false_eq_true, pk_div, pk_rem, Nat.reduceEqDiff, Nat.reduceLeDiff, Nat.reduceLT, Nat.reduceAdd, Nat.reduceMul, Nat.reduceSub, Nat.not_lt_zero, Nat.zero_le, reduceCtorEq, ite_self, n_rem, and_self, and_true, true_and, and_false, false_and, Nat.le_refl]
theorem nr_M {I : Nat → Nat → Int32} {J : Nat → Nat → Int64} {T : Option Nat} {A : Nat → Nat} {n z : Nat} (hn : n < 8) (w : Wf A) (mA : AtM I 90 A) : ∃ I' u, (∀ h, h < 8 → I' 102 h = nI (nrN A n h 8)) ∧ (∀ c k, c ≠ 99 ∧ c ≠ 102 → I' c k = I c k) ∧ ∀ Q, Rn sc (d + 2) 287 9 [some (.ref 89), some (.int (nI n)), some (.int (nI z)), some (.int (nI 0)), none] [] (K0, I, J, R1 T) Q = Rn sc (d + 2) 287 9 [some (.ref 89), some (.int (nI n)), some (.int (nI z)), some (.int (nI 8)), u] [] (K0, I', J, R1 T) Q := by
  obtain ⟨⟨I', u⟩, ⟨h1, h2⟩, h3⟩ := iterE (St := (Nat → Nat → Int32) × Option Value) (fun h s => (∀ x, x < h → s.1 102 x = nI (nrN A n x 8)) ∧ ∀ c k, c ≠ 99 ∧ c ≠ 102 → s.1 c k = I c k) (fun h s => fun Q => Rn sc (d + 2) 287 9 [some (.ref 89), some (.int (nI n)), some (.int (nI z)), some (.int (nI h)), s.2] [] (K0, s.1, J, R1 T) Q) 8 (by
    rintro h ⟨I1, u⟩ hh ⟨k1, f1⟩
    have k1 : ∀ x, x < h → I1 102 x = nI (nrN A n x 8) := k1
    have f1 : ∀ c k, c ≠ 99 ∧ c ≠ 102 → I1 c k = I c k := f1
    have lh : ¬ 8 ≤ h := by omega
    obtain ⟨I2, k2, f2, q2⟩ := sp_lay (sc := sc) (d := d) (J := J) (T := T) (I := uI I1 102 h (nI 0)) hh (show 255 < 256 by decide) w (AtM_c mA (fun k => (uI_n (by omega)).trans (f1 _ _ (by omega))))
    have g2 : ∀ c k, c ≠ 99 ∧ (c ≠ 102 ∨ k ≠ h) → I2 c k = I1 c k := fun c k hc => (f2 c k hc.1).trans (uI_n (by omega))
    have z2 : I2 102 h = nI (nrN A n h 0) := (f2 _ _ (by omega)).trans uI_s
    obtain ⟨I3, ⟨k3, f3⟩, h4⟩ := iterE (fun j I' => I' 102 h = nI (nrN A n h j) ∧ ∀ c k, c ≠ 102 ∨ k ≠ h → I' c k = I2 c k) (fun j I' => fun Q => Rn sc (d + 2) 287 24 [some (.ref 89), some (.int (nI n)), some (.int (nI z)), some (.int (nI h)), some (.int (nI j))] [] (K0, I', J, R1 T) Q) 8 (by
      rintro j I3 hj ⟨k3, f3⟩
      have lj : ¬ 8 ≤ j := by omega
      have ef : I3 99 j = dvD (ds A h j) := (f3 _ _ (by omega)).trans (k2 j hj)
      have is := nr_is (m := ds A h j) hn
      refine ⟨uI I3 102 h (nI (nrN A n h (j + 1))), ⟨uI_s, fun c k hc => (uI_n (by omega)).trans (f3 c k hc)⟩, funext fun Q => ?_⟩
      show Rn _ _ _ _ _ _ _ _ = Rn _ _ _ _ _ _ _ _
      rw [x287_24, nrN]
      by_cases c : ds A h j ≤ n
      · rw [if_pos c]
        simp (disch := first | assumption | omega | decide) only [x287_25, x287_26, x287_27, x287_28, x287_29, x287_30, x287_31, x287_32, x287_33, x287_34, x287_35, x287_36, x287_37, x287_38, x287_39, x287_40, x287_41, x287_42, x287_43, x287_44, x287_45, x287_46, x287_47, x287_48, ↓reduceIte, Option.toList, List.nil_append, List.cons_append, nI_add, pk_mul, n_and, n_or, n_xor, nI_leI, nI_ltI, nI_eq, n_z, uI_s, uI_n, bI_n0, bI_n1, bT, bF, if_true, if_false, not_true, not_false_eq_true, pk_div, pk_rem, Nat.reduceEqDiff, Nat.reduceLeDiff, Nat.reduceLT, Nat.reduceAdd, Nat.reduceMul, Nat.reduceSub, Nat.not_lt_zero, Nat.zero_le, reduceCtorEq, ite_self, n_rem, and_self, and_true, true_and, and_false, false_and, lj, k3, ef, sp_isIn, ↓is, c, n_one]
      · rw [if_neg c]
        simp (disch := first | assumption | omega | decide) only [x287_25, x287_26, x287_27, x287_28, x287_29, x287_30, x287_31, x287_32, x287_33, x287_34, x287_35, x287_36, x287_37, x287_38, x287_39, x287_40, x287_41, x287_42, x287_43, x287_44, x287_45, x287_46, x287_47, x287_48, ↓reduceIte, Option.toList, List.nil_append, List.cons_append, nI_add, pk_mul, n_and, n_or, n_xor, nI_leI, nI_ltI, nI_eq, n_z, uI_s, uI_n, bI_n0, bI_n1, bT, bF, if_true, if_false, not_true, not_false_eq_true, pk_div, pk_rem, Nat.reduceEqDiff, Nat.reduceLeDiff, Nat.reduceLT, Nat.reduceAdd, Nat.reduceMul, Nat.reduceSub, Nat.not_lt_zero, Nat.zero_le, reduceCtorEq, ite_self, n_rem, and_self, and_true, true_and, and_false, false_and, lj, k3, ef, sp_isIn, ↓is, c]) I2 ⟨z2, fun _ _ _ => rfl⟩
    refine ⟨(I3, some (.int (nI 8))), ⟨fun x hx => ?_, fun c k hc => (f3 c k (by omega)).trans ((g2 c k (by omega)).trans (f1 c k hc))⟩, funext fun Q => ?_⟩
    · show I3 102 x = _
      by_cases e : x = h
      · subst e
        exact k3
      · rw [f3 _ _ (by omega), g2 _ _ (by omega)]
        exact k1 x (by omega)
    · show Rn _ _ _ _ _ _ _ _ = Rn _ _ _ _ _ _ _ _
      have h4' := congrFun h4 Q
      rw [x287_9]
      simp (disch := first | assumption | omega | decide) only [x287_10, x287_11, x287_12, x287_13, x287_14, x287_15, x287_16, x287_17, x287_18, x287_19, x287_20, x287_21, x287_22, x287_23, ↓reduceIte, Option.toList, List.nil_append, List.cons_append, nI_add, pk_mul, n_and, n_or, n_xor, nI_leI, nI_ltI, nI_eq, n_z, uI_s, uI_n, bI_n0, bI_n1, bT, bF, if_true, if_false, not_true, not_false_eq_true, pk_div, pk_rem, Nat.reduceEqDiff, Nat.reduceLeDiff, Nat.reduceLT, Nat.reduceAdd, Nat.reduceMul, Nat.reduceSub, Nat.not_lt_zero, Nat.zero_le, reduceCtorEq, ite_self, n_rem, and_self, and_true, true_and, and_false, false_and, lh, q2]
      refine Eq.trans h4' ?_
      show Rn _ _ _ _ _ _ _ _ = _
      rw [x287_24]
      simp (disch := first | assumption | omega | decide) only [x287_25, x287_26, x287_49, x287_50, ↓reduceIte, Option.toList, List.nil_append, List.cons_append, nI_add, pk_mul, n_and, n_or, n_xor, nI_leI, nI_ltI, nI_eq, n_z, uI_s, uI_n, bI_n0, bI_n1, bT, bF, if_true, if_false, not_true, not_false_eq_true, pk_div, pk_rem, Nat.reduceEqDiff, Nat.reduceLeDiff, Nat.reduceLT, Nat.reduceAdd, Nat.reduceMul, Nat.reduceSub, Nat.not_lt_zero, Nat.zero_le, reduceCtorEq, ite_self, n_rem, and_self, and_true, true_and, and_false, false_and, Nat.le_refl]) (I, none) ⟨fun x hx => by omega, fun _ _ _ => rfl⟩
  exact ⟨I', u, h1, h2, fun Q => congrFun h3 Q⟩
theorem sp_areNear {I : Nat → Nat → Int32} {J : Nat → Nat → Int64} {T : Option Nat} {A : Nat → Nat} {s n : Nat} (hs : s < 256) (e : ∀ h, h < 8 → I 102 h = nI (nrN A n h 8)) : ∀ Q, Rn sc (d + 1) 286 0 [some (.ref 89), some (.int (nI s)), none, none] [] (K0, I, J, R1 T) Q = Q (some (.int (bI (cvN A n s 8 = 255)))) (K0, I, J, R1 T) := by
  intro Q
  have hi := iter0 (fun j => Rn sc (d + 1) 286 4 [some (.ref 89), some (.int (nI s)), some (.int (nI (cvN A n s j))), some (.int (nI j))] [] (K0, I, J, R1 T) Q) 8 (by
    intro j hj
    show Rn _ _ _ _ _ _ _ _ = Rn _ _ _ _ _ _ _ _
    have lj : ¬ 8 ≤ j := by omega
    have e0 := e j hj
    rw [x286_4, cvN]
    by_cases c : s / 2 ^ j % 2 = 1
    · rw [if_pos c]
      simp (disch := first | assumption | omega | decide) only [x286_0, x286_1, x286_2, x286_3, x286_5, x286_6, x286_7, x286_8, x286_9, x286_10, x286_11, x286_12, x286_13, x286_14, x286_15, x286_16, x286_17, x286_18, x286_19, x286_20, x286_21, x286_22, x286_23, x286_24, x286_25, x286_26, x286_27, x286_28, ↓reduceIte, Option.toList, List.nil_append, List.cons_append, nI_add, pk_mul, n_and, n_or, n_xor, nI_leI, nI_ltI, nI_eq, n_z, uI_s, uI_n, bI_n0, bI_n1, bT, bF, if_true, if_false, not_true, not_false_eq_true, pk_div, pk_rem, Nat.reduceEqDiff, Nat.reduceLeDiff, Nat.reduceLT, Nat.reduceAdd, Nat.reduceMul, Nat.reduceSub, Nat.not_lt_zero, Nat.zero_le, reduceCtorEq, ite_self, n_rem, and_self, and_true, true_and, and_false, false_and, lj, sp_has, c, e0]
    · rw [if_neg c]
      simp (disch := first | assumption | omega | decide) only [x286_0, x286_1, x286_2, x286_3, x286_5, x286_6, x286_7, x286_8, x286_9, x286_10, x286_11, x286_12, x286_13, x286_14, x286_15, x286_16, x286_17, x286_18, x286_19, x286_20, x286_21, x286_22, x286_23, x286_24, x286_25, x286_26, x286_27, x286_28, ↓reduceIte, Option.toList, List.nil_append, List.cons_append, nI_add, pk_mul, n_and, n_or, n_xor, nI_leI, nI_ltI, nI_eq, n_z, uI_s, uI_n, bI_n0, bI_n1, bT, bF, if_true, if_false, not_true, not_false_eq_true, pk_div, pk_rem, Nat.reduceEqDiff, Nat.reduceLeDiff, Nat.reduceLT, Nat.reduceAdd, Nat.reduceMul, Nat.reduceSub, Nat.not_lt_zero, Nat.zero_le, reduceCtorEq, ite_self, n_rem, and_self, and_true, true_and, and_false, false_and, lj, sp_has, c])
  simp (disch := first | assumption | omega | decide) only [x286_0, x286_1, x286_2, x286_3, ↓reduceIte, Option.toList, List.nil_append, List.cons_append, nI_add, pk_mul, n_and, n_or, n_xor, nI_leI, nI_ltI, nI_eq, n_z, uI_s, uI_n, bI_n0, bI_n1, bT, bF, if_true, if_false, not_true, not_false_eq_true, pk_div, pk_rem, Nat.reduceEqDiff, Nat.reduceLeDiff, Nat.reduceLT, Nat.reduceAdd, Nat.reduceMul, Nat.reduceSub, Nat.not_lt_zero, Nat.zero_le, reduceCtorEq, ite_self, n_rem, and_self, and_true, true_and, and_false, false_and]
  refine Eq.trans hi ?_
  show Rn _ _ _ _ _ _ _ _ = _
  have lc := cv_lt (A := A) (n := n) (s := s) 8
  rw [x286_4]
  by_cases c : cvN A n s 8 = 255
  · rw [bI_t c]
    simp (disch := first | assumption | omega | decide) only [x286_0, x286_1, x286_2, x286_3, x286_5, x286_6, x286_7, x286_8, x286_9, x286_10, x286_11, x286_12, x286_13, x286_14, x286_15, x286_16, x286_17, x286_18, x286_19, x286_20, x286_21, x286_22, x286_23, x286_24, x286_25, x286_26, x286_27, x286_28, ↓reduceIte, Option.toList, List.nil_append, List.cons_append, nI_add, pk_mul, n_and, n_or, n_xor, nI_leI, nI_ltI, nI_eq, n_z, uI_s, uI_n, bI_n0, bI_n1, bT, bF, if_true, if_false, not_true, not_false_eq_true, pk_div, pk_rem, Nat.reduceEqDiff, Nat.reduceLeDiff, Nat.reduceLT, Nat.reduceAdd, Nat.reduceMul, Nat.reduceSub, Nat.not_lt_zero, Nat.zero_le, reduceCtorEq, ite_self, n_rem, and_self, and_true, true_and, and_false, false_and, Nat.le_refl, c]
  · rw [bI_f c]
    simp (disch := first | assumption | omega | decide) only [x286_0, x286_1, x286_2, x286_3, x286_5, x286_6, x286_7, x286_8, x286_9, x286_10, x286_11, x286_12, x286_13, x286_14, x286_15, x286_16, x286_17, x286_18, x286_19, x286_20, x286_21, x286_22, x286_23, x286_24, x286_25, x286_26, x286_27, x286_28, ↓reduceIte, Option.toList, List.nil_append, List.cons_append, nI_add, pk_mul, n_and, n_or, n_xor, nI_leI, nI_ltI, nI_eq, n_z, uI_s, uI_n, bI_n0, bI_n1, bT, bF, if_true, if_false, not_true, not_false_eq_true, pk_div, pk_rem, Nat.reduceEqDiff, Nat.reduceLeDiff, Nat.reduceLT, Nat.reduceAdd, Nat.reduceMul, Nat.reduceSub, Nat.not_lt_zero, Nat.zero_le, reduceCtorEq, ite_self, n_rem, and_self, and_true, true_and, and_false, false_and, Nat.le_refl, c]
theorem jt_agents {x : Int32} {z : Nat} (hz : z < 2) : Jt TX sc (d + 3) 145 287 [some (.ref 0), some (.int x), some (.int (nI z)), none] [some (.ref 89), some (.int x), some (.int (nI z)), none, none] := by
  intro A B M w _
  have w' := w
  obtain ⟨wA, wB, wt⟩ := w
  have hz' : z = 0 ∨ z = 1 := by omega
  by_cases hx : inR x 8
  · obtain ⟨n, hn, rfl⟩ := hx
    obtain ⟨h1, h2, -, -⟩ := up_inv (P := PA A n) (by decide) PA_255 (fun t ht h => PA_h0 ht h) 256 (by omega)
    have eq := ud_eq (P := PA A n) (i0 := 256) (by decide) PA_255 (fun t ht h => PA_h0 ht h) (Or.inr ⟨rfl, PA_255⟩)
    obtain ⟨v, ev⟩ : ∃ v, v = upN (PA A n) 255 256 := ⟨_, rfl⟩
    rw [← ev] at h2 eq
    refine ⟨if z = 0 then nI v else nI (pcN v), A, B, w', Nat.le_refl _, ?_, ?_⟩
    · intro I J T cI _
      obtain ⟨I1, k1, f1, q1⟩ := sp_measure (sc := sc) (d := d + 1) (J := J) (T := T) (u1 := none) (u2 := none) (u3 := none) (u4 := none) (u5 := none) wA (BsC_of cI)
      have sw := sp_setW (sc := sc) (d := d) (J := J) (T := T) hn k1
      rw [← ev] at sw
      refine ⟨I1, fun c k hc => f1 c k (by omega), CI_c w' cI (fun c k hc => f1 c k (by omega)), fun Q => ?_⟩
      rcases hz' with rfl | rfl
      · rw [if_pos rfl]
        simp (disch := first | assumption | omega | decide) only [x145_0, x145_1, x145_2, x145_3, x145_4, x145_5, x145_6, x145_7, x145_8, x145_9, x145_10, x145_11, x145_12, x145_13, x145_14, x145_15, x145_16, x145_17, x145_18, x145_19, x145_20, x145_21, ↓reduceIte, Option.toList, List.nil_append, List.cons_append, nI_add, pk_mul, n_and, n_or, n_xor, nI_leI, nI_ltI, nI_eq, n_z, uI_s, uI_n, bI_n0, bI_n1, bT, bF, if_true, if_false, not_true, not_false_eq_true, pk_div, pk_rem, Nat.reduceEqDiff, Nat.reduceLeDiff, Nat.reduceLT, Nat.reduceAdd, Nat.reduceMul, Nat.reduceSub, Nat.not_lt_zero, Nat.zero_le, reduceCtorEq, ite_self, n_rem, and_self, and_true, true_and, and_false, false_and, sp_isWithin, ↓in_t, q1, sw]
      · rw [if_neg (by decide)]
        simp (disch := first | assumption | omega | decide) only [x145_0, x145_1, x145_2, x145_3, x145_4, x145_5, x145_6, x145_7, x145_8, x145_9, x145_10, x145_11, x145_12, x145_13, x145_14, x145_15, x145_16, x145_17, x145_18, x145_19, x145_20, x145_21, ↓reduceIte, Option.toList, List.nil_append, List.cons_append, nI_add, pk_mul, n_and, n_or, n_xor, nI_leI, nI_ltI, nI_eq, n_z, uI_s, uI_n, bI_n0, bI_n1, bT, bF, if_true, if_false, not_true, not_false_eq_true, pk_div, pk_rem, Nat.reduceEqDiff, Nat.reduceLeDiff, Nat.reduceLT, Nat.reduceAdd, Nat.reduceMul, Nat.reduceSub, Nat.not_lt_zero, Nat.zero_le, reduceCtorEq, ite_self, n_rem, and_self, and_true, true_and, and_false, false_and, sp_isWithin, ↓in_t, q1, sw, sp_bitCount]
    · intro I J T mI _
      obtain ⟨I1, u1, k1, f1, q1⟩ := nr_M (sc := sc) (d := d + 1) (J := J) (T := T) (z := z) hn wA mI.1
      refine ⟨I1, J, ⟨fun c k hc => f1 c k (by omega), fun k hk => f1 _ _ (by omega)⟩, MI_c mI (fun c k hc => f1 c k (by omega)) (f1 _ _ (by omega)), fun Q => ?_⟩
      have hi := iter0 (fun k => Rn sc (d + 3) 287 55 [some (.ref 89), some (.int (nI n)), some (.int (nI z)), some (.int (nI (dnN (PA A n) 256 k - 1))), some (.int (dwI k))] [] (K0, I1, J, R1 T) Q) 256 (by
        intro k hk
        show Rn _ _ _ _ _ _ _ _ = Rn _ _ _ _ _ _ _ _
        obtain ⟨s, es⟩ : ∃ s, s = 255 - k := ⟨_, rfl⟩
        have hs : s < 256 := by omega
        have e1 := dwI_s (k := k) (by omega)
        rw [← es] at e1
        have l1 := pc_8 _ hs
        have na := sp_areNear (sc := sc) (d := d + 1) (J := J) (T := T) hs k1
        have inv := dn_inv (P := PA A n) (i0 := 256) (Or.inr ⟨rfl, PA_255⟩) k (by omega)
        have ex : ∃ y, dnN (PA A n) 256 k = y + 1 ∧ y < 256 := by
          rcases inv with ⟨i1, i2⟩ | ⟨y, i1, i2, -⟩
          · by_cases k0 : k = 0
            · subst k0
              cases i1
            · exact absurd PA_255 (i2 255 (by omega) (by omega))
          · exact ⟨y, i1, i2⟩
        obtain ⟨y, ey, hy⟩ := ex
        have l2 := pc_8 _ hy
        rw [x287_55, dnN_s, ey, dwI_t (show k ≤ 255 by omega), ← es, Nat.add_sub_cancel]
        by_cases c1 : pcN s ≤ pcN y
        · have c1' : ¬ pcN y < pcN s := by omega
          by_cases c2 : cvN A n s 8 = 255
          · rw [if_pos ⟨c2, Or.inr c1⟩, Nat.add_sub_cancel]
            simp (disch := first | assumption | omega | decide) only [x287_56, x287_57, x287_58, x287_59, x287_60, x287_61, x287_62, x287_63, x287_64, x287_65, x287_66, x287_67, x287_68, x287_69, ↓reduceIte, Option.toList, List.nil_append, List.cons_append, nI_add, pk_mul, n_and, n_or, n_xor, nI_leI, nI_ltI, nI_eq, n_z, uI_s, uI_n, bI_n0, bI_n1, bT, bF, if_true, if_false, not_true, not_false_eq_true, pk_div, pk_rem, Nat.reduceEqDiff, Nat.reduceLeDiff, Nat.reduceLT, Nat.reduceAdd, Nat.reduceMul, Nat.reduceSub, Nat.not_lt_zero, Nat.zero_le, reduceCtorEq, ite_self, n_rem, and_self, and_true, true_and, and_false, false_and, sp_bits, c1', na, c2, e1]
          · rw [if_neg (fun h => c2 h.1), Nat.add_sub_cancel]
            simp (disch := first | assumption | omega | decide) only [x287_56, x287_57, x287_58, x287_59, x287_60, x287_61, x287_62, x287_63, x287_64, x287_65, x287_66, x287_67, x287_68, x287_69, ↓reduceIte, Option.toList, List.nil_append, List.cons_append, nI_add, pk_mul, n_and, n_or, n_xor, nI_leI, nI_ltI, nI_eq, n_z, uI_s, uI_n, bI_n0, bI_n1, bT, bF, if_true, if_false, not_true, not_false_eq_true, pk_div, pk_rem, Nat.reduceEqDiff, Nat.reduceLeDiff, Nat.reduceLT, Nat.reduceAdd, Nat.reduceMul, Nat.reduceSub, Nat.not_lt_zero, Nat.zero_le, reduceCtorEq, ite_self, n_rem, and_self, and_true, true_and, and_false, false_and, sp_bits, c1', na, c2, e1]
        · have c1' : pcN y < pcN s := by omega
          rw [if_neg (fun h => by have := h.2; omega), Nat.add_sub_cancel]
          simp (disch := first | assumption | omega | decide) only [x287_56, x287_57, x287_58, x287_59, x287_60, x287_61, x287_62, x287_63, x287_64, x287_65, x287_66, x287_67, x287_68, x287_69, ↓reduceIte, Option.toList, List.nil_append, List.cons_append, nI_add, pk_mul, n_and, n_or, n_xor, nI_leI, nI_ltI, nI_eq, n_z, uI_s, uI_n, bI_n0, bI_n1, bT, bF, if_true, if_false, not_true, not_false_eq_true, pk_div, pk_rem, Nat.reduceEqDiff, Nat.reduceLeDiff, Nat.reduceLT, Nat.reduceAdd, Nat.reduceMul, Nat.reduceSub, Nat.not_lt_zero, Nat.zero_le, reduceCtorEq, ite_self, n_rem, and_self, and_true, true_and, and_false, false_and, sp_bits, c1', e1])
      have e255 : dnN (PA A n) 256 0 - 1 = 255 := rfl
      have s0 : dwI 0 = nI 255 := rfl
      have s256 : dwI 256 = -1 := rfl
      rw [e255, s0, eq, Nat.add_sub_cancel, s256] at hi
      simp (disch := first | assumption | omega | decide) only [x287_0, x287_1, x287_2, x287_3, x287_4, x287_5, x287_6, x287_7, x287_8, ↓reduceIte, Option.toList, List.nil_append, List.cons_append, nI_add, pk_mul, n_and, n_or, n_xor, nI_leI, nI_ltI, nI_eq, n_z, uI_s, uI_n, bI_n0, bI_n1, bT, bF, if_true, if_false, not_true, not_false_eq_true, pk_div, pk_rem, Nat.reduceEqDiff, Nat.reduceLeDiff, Nat.reduceLT, Nat.reduceAdd, Nat.reduceMul, Nat.reduceSub, Nat.not_lt_zero, Nat.zero_le, reduceCtorEq, ite_self, n_rem, and_self, and_true, true_and, and_false, false_and, sp_isIn, ↓in_t, q1]
      rw [x287_9]
      simp (disch := first | assumption | omega | decide) only [x287_10, x287_11, x287_51, x287_52, x287_53, x287_54, ↓reduceIte, Option.toList, List.nil_append, List.cons_append, nI_add, pk_mul, n_and, n_or, n_xor, nI_leI, nI_ltI, nI_eq, n_z, uI_s, uI_n, bI_n0, bI_n1, bT, bF, if_true, if_false, not_true, not_false_eq_true, pk_div, pk_rem, Nat.reduceEqDiff, Nat.reduceLeDiff, Nat.reduceLT, Nat.reduceAdd, Nat.reduceMul, Nat.reduceSub, Nat.not_lt_zero, Nat.zero_le, reduceCtorEq, ite_self, n_rem, and_self, and_true, true_and, and_false, false_and, Nat.le_refl]
      refine Eq.trans hi ?_
      rw [x287_55]
      rcases hz' with rfl | rfl
      · rw [if_pos rfl]
        simp (disch := first | assumption | omega | decide) only [x287_56, x287_70, x287_71, x287_72, x287_73, x287_74, x287_75, x287_76, ↓reduceIte, Option.toList, List.nil_append, List.cons_append, nI_add, pk_mul, n_and, n_or, n_xor, nI_leI, nI_ltI, nI_eq, n_z, uI_s, uI_n, bI_n0, bI_n1, bT, bF, if_true, if_false, not_true, not_false_eq_true, pk_div, pk_rem, Nat.reduceEqDiff, Nat.reduceLeDiff, Nat.reduceLT, Nat.reduceAdd, Nat.reduceMul, Nat.reduceSub, Nat.not_lt_zero, Nat.zero_le, reduceCtorEq, ite_self, n_rem, and_self, and_true, true_and, and_false, false_and, show ((-1 : Int32) < nI 0) = True from eq_true (by decide)]
      · rw [if_neg (by decide)]
        simp (disch := first | assumption | omega | decide) only [x287_56, x287_70, x287_71, x287_72, x287_73, x287_74, x287_75, x287_76, ↓reduceIte, Option.toList, List.nil_append, List.cons_append, nI_add, pk_mul, n_and, n_or, n_xor, nI_leI, nI_ltI, nI_eq, n_z, uI_s, uI_n, bI_n0, bI_n1, bT, bF, if_true, if_false, not_true, not_false_eq_true, pk_div, pk_rem, Nat.reduceEqDiff, Nat.reduceLeDiff, Nat.reduceLT, Nat.reduceAdd, Nat.reduceMul, Nat.reduceSub, Nat.not_lt_zero, Nat.zero_le, reduceCtorEq, ite_self, n_rem, and_self, and_true, true_and, and_false, false_and, show ((-1 : Int32) < nI 0) = True from eq_true (by decide), sp_bits]
  · refine jtR w' (-1) ?_ ?_ <;> intro I J T Q hI
    · simp (disch := first | assumption | omega | decide) only [x145_0, x145_1, x145_2, x145_3, x145_4, x145_5, x145_6, x145_7, x145_8, x145_9, x145_10, x145_11, x145_12, x145_13, x145_14, x145_15, x145_16, x145_17, x145_18, x145_19, x145_20, x145_21, ↓reduceIte, Option.toList, List.nil_append, List.cons_append, nI_add, pk_mul, n_and, n_or, n_xor, nI_leI, nI_ltI, nI_eq, n_z, uI_s, uI_n, bI_n0, bI_n1, bT, bF, if_true, if_false, not_true, not_false_eq_true, pk_div, pk_rem, Nat.reduceEqDiff, Nat.reduceLeDiff, Nat.reduceLT, Nat.reduceAdd, Nat.reduceMul, Nat.reduceSub, Nat.not_lt_zero, Nat.zero_le, reduceCtorEq, ite_self, n_rem, and_self, and_true, true_and, and_false, false_and, sp_isWithin, ↓in_f hx]
    · simp (disch := first | assumption | omega | decide) only [x287_0, x287_1, x287_2, x287_3, x287_4, x287_5, x287_6, x287_7, x287_8, ↓reduceIte, Option.toList, List.nil_append, List.cons_append, nI_add, pk_mul, n_and, n_or, n_xor, nI_leI, nI_ltI, nI_eq, n_z, uI_s, uI_n, bI_n0, bI_n1, bT, bF, if_true, if_false, not_true, not_false_eq_true, pk_div, pk_rem, Nat.reduceEqDiff, Nat.reduceLeDiff, Nat.reduceLT, Nat.reduceAdd, Nat.reduceMul, Nat.reduceSub, Nat.not_lt_zero, Nat.zero_le, reduceCtorEq, ite_self, n_rem, and_self, and_true, true_and, and_false, false_and, sp_isIn, ↓in_f hx]
end Agents
