/-! whom one comes to by some roads alone -/
def tw (A : Nat → Nat) (k : Nat) : Nat := 2 ^ A (40 + 2 * k) ||| 2 ^ A (40 + 2 * k + 1)
def swN (A : Nat → Nat) (R s : Nat) : Nat → Nat
  | 0 => s
  | k + 1 => if R / 2 ^ k % 2 = 1 ∧ ¬ swN A R s k &&& tw A k = 0 then swN A R s k ||| tw A k else swN A R s k
def sw (A : Nat → Nat) (R s : Nat) : Nat := swN A R s (A 0)
def cmI (A : Nat → Nat) (R a : Nat) : Nat → Nat
  | 0 => 2 ^ a
  | n + 1 => sw A R (cmI A R a n)
theorem sw_u {A : Nat → Nat} {R s i : Nat} (h : s.testBit i = true) : ∀ n, (swN A R s n).testBit i = true
  | 0 => h
  | n + 1 => by
    rw [swN]
    split
    · rw [Nat.testBit_or, sw_u h n, Bool.true_or]
    · exact sw_u h n
theorem sw_um {A : Nat → Nat} {R s i n : Nat} (h : (swN A R s n).testBit i = true) : ∀ m, (swN A R s (n + m)).testBit i = true
  | 0 => h
  | m + 1 => by
    show (swN A R s (n + m + 1)).testBit i = true
    rw [swN]
    split
    · rw [Nat.testBit_or, sw_um h m, Bool.true_or]
    · exact sw_um h m
theorem tw_lt {A : Nat → Nat} {k : Nat} (w : Wf A) (hk : k < A 0) : tw A k < 256 := by
  obtain ⟨a8, b8, -⟩ := w.2.2.1.1 k hk
  exact Nat.or_lt_two_pow (n := 8) (p2_lt a8) (p2_lt b8)
theorem sw_lt {A : Nat → Nat} {R s : Nat} (w : Wf A) (hs : s < 256) : ∀ n, n ≤ A 0 → swN A R s n < 256
  | 0, _ => hs
  | n + 1, hn => by
    rw [swN]
    split
    · exact Nat.or_lt_two_pow (n := 8) (sw_lt w hs n (by omega)) (tw_lt w (by omega))
    · exact sw_lt w hs n (by omega)
theorem cm_lt' {A : Nat → Nat} {R a : Nat} (w : Wf A) (ha : a < 8) : ∀ n, cmI A R a n < 256
  | 0 => p2_lt ha
  | n + 1 => sw_lt w (cm_lt' w ha n) _ (Nat.le_refl _)
theorem cm_u {A : Nat → Nat} {R a i n : Nat} (h : (cmI A R a n).testBit i = true) : (cmI A R a (n + 1)).testBit i = true := sw_u h _
theorem cm_a {A : Nat → Nat} {R a : Nat} : ∀ n, (cmI A R a n).testBit a = true
  | 0 => by rw [cmI, Nat.testBit_two_pow, decide_eq_true rfl]
  | n + 1 => cm_u (cm_a n)
theorem cm_e {A : Nat → Nat} {R a n : Nat} (h : cmI A R a (n + 1) = cmI A R a n) : ∀ m, cmI A R a (n + m) = cmI A R a n
  | 0 => rfl
  | m + 1 => by
    show sw A R (cmI A R a (n + m)) = _
    rw [cm_e h m]
    exact h
theorem ne_bit {x y : Nat} (h : x ≠ y) : ∃ i, x.testBit i ≠ y.testBit i := by
  apply Classical.byContradiction
  intro hn
  exact h (Nat.eq_of_testBit_eq (fun i => Classical.byContradiction (fun hi => hn ⟨i, hi⟩)))
theorem cm_n {A : Nat → Nat} {R a : Nat} (w : Wf A) (ha : a < 8) : ∀ n, cmI A R a (n + 1) = cmI A R a n ∨ n + 2 ≤ cn (cmI A R a (n + 1)) 8 := by
  have step : ∀ n, cmI A R a (n + 1) ≠ cmI A R a n → cn (cmI A R a n) 8 < cn (cmI A R a (n + 1)) 8 := by
    intro n h
    obtain ⟨i, hi⟩ := ne_bit h
    have h2 : (cmI A R a n).testBit i = false := by
      cases c : (cmI A R a n).testBit i
      · rfl
      · exact absurd ((cm_u c).trans c.symm) hi
    have h1 : (cmI A R a (n + 1)).testBit i = true := by
      cases c : (cmI A R a (n + 1)).testBit i
      · exact absurd (c.trans h2.symm) hi
      · rfl
    exact cn_lt (fun i h => cm_u h) h1 h2 8 (tb_lt (cm_lt' w ha _) h1)
  intro n
  induction n with
  | zero =>
    by_cases c : cmI A R a (0 + 1) = cmI A R a 0
    · exact Or.inl c
    · right
      have h1 := step 0 c
      have h2 : cn 0 8 < cn (cmI A R a 0) 8 := cn_lt (fun i h => by rw [Nat.zero_testBit] at h; cases h) (cm_a 0) (Nat.zero_testBit a) 8 ha
      omega
  | succ n ih =>
    by_cases c : cmI A R a (n + 1 + 1) = cmI A R a (n + 1)
    · exact Or.inl c
    · rcases ih with h | h
      · have := cm_e h 2
        have e1 := cm_e h 1
        exact absurd (this.trans e1.symm) c
      · have h1 := step (n + 1) c
        exact Or.inr (by omega)
theorem cm_8 {A : Nat → Nat} {R a : Nat} (w : Wf A) (ha : a < 8) : cmI A R a 8 = cmI A R a 7 := by
  rcases cm_n (R := R) w ha 7 with h | h
  · exact h
  · have := cn_8 (s := cmI A R a (7 + 1)) 8
    omega
def comp (A : Nat → Nat) (a R : Nat) : Nat := cmI A R a 8
theorem cm_st {A : Nat → Nat} {R a n : Nat} (w : Wf A) (ha : a < 8) (hn : n ≤ 8) (h : cmI A R a (n + 1) = cmI A R a n) : cmI A R a n = comp A a R := by
  have := cm_e h (8 - n)
  rw [show n + (8 - n) = 8 by omega] at this
  exact this.symm
/-- closed under some roads -/
def Cls (A : Nat → Nat) (R Z : Nat) : Prop := ∀ k, k < A 0 → R.testBit k = true → (Z.testBit (A (40 + 2 * k)) = true ∨ Z.testBit (A (40 + 2 * k + 1)) = true) → Z.testBit (A (40 + 2 * k)) = true ∧ Z.testBit (A (40 + 2 * k + 1)) = true
theorem tw_b {A : Nat → Nat} {k i : Nat} : (tw A k).testBit i = true ↔ A (40 + 2 * k) = i ∨ A (40 + 2 * k + 1) = i := by
  unfold tw
  rw [Nat.testBit_or, Nat.testBit_two_pow, Nat.testBit_two_pow, Bool.or_eq_true, decide_eq_true_eq, decide_eq_true_eq]
theorem tw_z {A : Nat → Nat} {k s : Nat} : ¬ s &&& tw A k = 0 ↔ s.testBit (A (40 + 2 * k)) = true ∨ s.testBit (A (40 + 2 * k + 1)) = true := by
  unfold tw
  rw [en_iff, tb_iff, tb_iff]
  constructor
  · intro h
    by_cases c : s.testBit (A (40 + 2 * k)) = true
    · exact Or.inl c
    · by_cases c2 : s.testBit (A (40 + 2 * k + 1)) = true
      · exact Or.inr c2
      · exact absurd ⟨c, c2⟩ h
  · rintro (h | h) ⟨h1, h2⟩
    · exact h1 h
    · exact h2 h
theorem sw_in {A : Nat → Nat} {R s Z : Nat} (hZ : Cls A R Z) (hs : ∀ i, s.testBit i = true → Z.testBit i = true) : ∀ n, n ≤ A 0 → ∀ i, (swN A R s n).testBit i = true → Z.testBit i = true
  | 0, _, i, h => hs i h
  | n + 1, hn, i, h => by
    have ih := sw_in hZ hs n (by omega)
    rw [swN] at h
    split at h
    · next c =>
      rw [Nat.testBit_or, Bool.or_eq_true, tw_b] at h
      have h2 := hZ n (by omega) (tb_iff.mp c.1) (by
        rcases tw_z.mp c.2 with h3 | h3
        · exact Or.inl (ih _ h3)
        · exact Or.inr (ih _ h3))
      rcases h with h | h | h
      · exact ih i h
      · rw [← h]; exact h2.1
      · rw [← h]; exact h2.2
    · exact ih i h
theorem cm_in {A : Nat → Nat} {R a Z : Nat} (hZ : Cls A R Z) (ha : Z.testBit a = true) : ∀ n i, (cmI A R a n).testBit i = true → Z.testBit i = true
  | 0, i, h => by
    rw [cmI, Nat.testBit_two_pow, decide_eq_true_eq] at h
    rw [← h]
    exact ha
  | n + 1, i, h => sw_in hZ (cm_in hZ ha n) _ (Nat.le_refl _) i h
theorem comp_c {A : Nat → Nat} {R a : Nat} (w : Wf A) (ha : a < 8) : Cls A R (comp A a R) := by
  have fx : sw A R (comp A a R) = comp A a R := by
    show cmI A R a (8 + 1) = cmI A R a 8
    have h := cm_8 (R := R) w ha
    have e1 := cm_e (n := 7) h 2
    have e2 := cm_e (n := 7) h 1
    exact e1.trans e2.symm
  intro k hk hR h
  have sub : ∀ i, (swN A R (comp A a R) (k + 1)).testBit i = true → (comp A a R).testBit i = true := by
    intro i hi
    have := sw_um hi (A 0 - (k + 1))
    rw [show k + 1 + (A 0 - (k + 1)) = A 0 by omega] at this
    rw [← fx]
    exact this
  have c : R / 2 ^ k % 2 = 1 ∧ ¬ swN A R (comp A a R) k &&& tw A k = 0 := ⟨tb_iff.mpr hR, tw_z.mpr (by
    rcases h with h | h
    · exact Or.inl (sw_u h k)
    · exact Or.inr (sw_u h k))⟩
  rw [swN, if_pos c] at sub
  exact ⟨sub _ (by rw [Nat.testBit_or, (tw_b (i := A (40 + 2 * k))).mpr (Or.inl rfl), Bool.or_true]), sub _ (by rw [Nat.testBit_or, (tw_b (i := A (40 + 2 * k + 1))).mpr (Or.inr rfl), Bool.or_true])⟩
theorem comp_l {A : Nat → Nat} {R a : Nat} (w : Wf A) (ha : a < 8) : comp A a R < 256 := cm_lt' w ha 8
section Come
variable {sc : Sc} {d : Nat} {J : Nat → Nat → Int64} {T : Option Nat} {A : Nat → Nat}
theorem sp_sweep {I : Nat → Nat → Int32} {a R s : Nat} {u5 u6 : Option Value} (w : Wf A) (mA : AtM I 90 A) (hR : R < 4096) (hs : s < 256) : ∃ u, ∀ Q, Rn sc (d + 1) 274 13 [some (.ref 89), some (.int (nI a)), some (.int (nI R)), some (.int (nI s)), some (.int (nI s)), some (.int (nI 0)), u6] [] (K0, I, J, R1 T) Q = Rn sc (d + 1) 274 6 [some (.ref 89), some (.int (nI a)), some (.int (nI R)), some (.int (nI (sw A R s))), some (.int (nI s)), some (.int (nI (A 0))), u] [] (K0, I, J, R1 T) Q := by
  have w0 : A 0 ≤ 12 := w.1.1
  have m' : ∀ k, k < 1799 → I 90 k = nI (A k) := mA
  obtain ⟨u, -, h3⟩ := iterE (St := Option Value) (fun (_ : Nat) _ => True) (fun k u => fun Q => Rn sc (d + 1) 274 13 [some (.ref 89), some (.int (nI a)), some (.int (nI R)), some (.int (nI (swN A R s k))), some (.int (nI s)), some (.int (nI k)), u] [] (K0, I, J, R1 T) Q) (A 0) (by
    rintro k u hk -
    obtain ⟨a8, b8, -⟩ := w.2.2.1.1 k hk
    have lk : ¬ A 0 ≤ k := by omega
    have ls := sw_lt (R := R) w hs k (by omega)
    have lt := tw_lt w hk
    have et : 2 ^ A (40 + 2 * k) ||| 2 ^ A (40 + 2 * k + 1) = tw A k := rfl
    have la : swN A R s k &&& tw A k < 256 := Nat.and_lt_two_pow (n := 8) _ lt
    refine ⟨some (.int (nI (tw A k))), trivial, funext fun Q => ?_⟩
    show Rn _ _ _ _ _ _ _ _ = Rn _ _ _ _ _ _ _ _
    rw [x274_13, swN]
    by_cases c1 : R / 2 ^ k % 2 = 1
    · by_cases c2 : swN A R s k &&& tw A k = 0
      · rw [if_neg (fun h => h.2 c2)]
        simp (disch := first | assumption | omega | decide) only [x274_14, x274_15, x274_16, x274_17, x274_18, x274_19, x274_20, x274_21, x274_22, x274_23, x274_24, x274_25, x274_26, x274_27, x274_28, x274_29, x274_30, x274_31, x274_32, x274_33, x274_34, x274_35, x274_36, x274_37, x274_38, x274_39, x274_40, x274_41, x274_42, x274_43, x274_44, x274_45, x274_46, x274_47, x274_48, x274_49, x274_50, x274_51, x274_52, x274_53, x274_54, x274_55, x274_56, ↓reduceIte, Option.toList, List.nil_append, List.cons_append, nI_add, pk_mul, n_and, n_or, n_xor, nI_leI, nI_ltI, nI_eq, n_z, uI_s, uI_n, bI_n0, bI_n1, bT, bF, if_true, if_false, not_true, not_false_eq_true, pk_div, pk_rem, Nat.reduceEqDiff, Nat.reduceLeDiff, Nat.reduceLT, Nat.reduceAdd, Nat.reduceMul, Nat.reduceSub, Nat.not_lt_zero, Nat.zero_le, reduceCtorEq, ite_self, n_rem, and_self, and_true, true_and, and_false, false_and, m', lk, n_one, et, sp_has, c1, c2]
      · rw [if_pos ⟨c1, c2⟩]
        simp (disch := first | assumption | omega | decide) only [x274_14, x274_15, x274_16, x274_17, x274_18, x274_19, x274_20, x274_21, x274_22, x274_23, x274_24, x274_25, x274_26, x274_27, x274_28, x274_29, x274_30, x274_31, x274_32, x274_33, x274_34, x274_35, x274_36, x274_37, x274_38, x274_39, x274_40, x274_41, x274_42, x274_43, x274_44, x274_45, x274_46, x274_47, x274_48, x274_49, x274_50, x274_51, x274_52, x274_53, x274_54, x274_55, x274_56, ↓reduceIte, Option.toList, List.nil_append, List.cons_append, nI_add, pk_mul, n_and, n_or, n_xor, nI_leI, nI_ltI, nI_eq, n_z, uI_s, uI_n, bI_n0, bI_n1, bT, bF, if_true, if_false, not_true, not_false_eq_true, pk_div, pk_rem, Nat.reduceEqDiff, Nat.reduceLeDiff, Nat.reduceLT, Nat.reduceAdd, Nat.reduceMul, Nat.reduceSub, Nat.not_lt_zero, Nat.zero_le, reduceCtorEq, ite_self, n_rem, and_self, and_true, true_and, and_false, false_and, m', lk, n_one, et, sp_has, c1, c2]
    · rw [if_neg (fun h => c1 h.1)]
      simp (disch := first | assumption | omega | decide) only [x274_14, x274_15, x274_16, x274_17, x274_18, x274_19, x274_20, x274_21, x274_22, x274_23, x274_24, x274_25, x274_26, x274_27, x274_28, x274_29, x274_30, x274_31, x274_32, x274_33, x274_34, x274_35, x274_36, x274_37, x274_38, x274_39, x274_40, x274_41, x274_42, x274_43, x274_44, x274_45, x274_46, x274_47, x274_48, x274_49, x274_50, x274_51, x274_52, x274_53, x274_54, x274_55, x274_56, ↓reduceIte, Option.toList, List.nil_append, List.cons_append, nI_add, pk_mul, n_and, n_or, n_xor, nI_leI, nI_ltI, nI_eq, n_z, uI_s, uI_n, bI_n0, bI_n1, bT, bF, if_true, if_false, not_true, not_false_eq_true, pk_div, pk_rem, Nat.reduceEqDiff, Nat.reduceLeDiff, Nat.reduceLT, Nat.reduceAdd, Nat.reduceMul, Nat.reduceSub, Nat.not_lt_zero, Nat.zero_le, reduceCtorEq, ite_self, n_rem, and_self, and_true, true_and, and_false, false_and, m', lk, n_one, et, sp_has, c1]) u6 trivial
  refine ⟨u, fun Q => ?_⟩
  refine Eq.trans (congrFun h3 Q) ?_
  show Rn _ _ _ _ _ _ _ _ = _
  rw [x274_13]
  simp (disch := first | assumption | omega | decide) only [x274_14, x274_15, x274_16, x274_17, x274_18, x274_57, ↓reduceIte, Option.toList, List.nil_append, List.cons_append, nI_add, pk_mul, n_and, n_or, n_xor, nI_leI, nI_ltI, nI_eq, n_z, uI_s, uI_n, bI_n0, bI_n1, bT, bF, if_true, if_false, not_true, not_false_eq_true, pk_div, pk_rem, Nat.reduceEqDiff, Nat.reduceLeDiff, Nat.reduceLT, Nat.reduceAdd, Nat.reduceMul, Nat.reduceSub, Nat.not_lt_zero, Nat.zero_le, reduceCtorEq, ite_self, n_rem, and_self, and_true, true_and, and_false, false_and, m', Nat.le_refl]
  rfl
theorem sp_come {I : Nat → Nat → Int32} {a R : Nat} (w : Wf A) (mA : AtM I 90 A) (ha : a < 8) (hR : R < 4096) : ∀ Q, Rn sc (d + 1) 274 0 [some (.ref 89), some (.int (nI a)), some (.int (nI R)), none, none, none, none] [] (K0, I, J, R1 T) Q = Q (some (.int (nI (comp A a R)))) (K0, I, J, R1 T) := by
  intro Q
  have loop : ∀ (m n : Nat) (u5 u6 : Option Value), n + m = 8 → Rn sc (d + 1) 274 6 [some (.ref 89), some (.int (nI a)), some (.int (nI R)), some (.int (nI (cmI A R a (n + 1)))), some (.int (nI (cmI A R a n))), u5, u6] [] (K0, I, J, R1 T) Q = Q (some (.int (nI (comp A a R)))) (K0, I, J, R1 T) := by
    intro m
    induction m with
    | zero =>
      intro n u5 u6 hn
      obtain rfl : n = 8 := by omega
      have e8 : cmI A R a (8 + 1) = cmI A R a 8 := by
        have h := cm_8 (R := R) w ha
        exact (cm_e (n := 7) h 2).trans (cm_e (n := 7) h 1).symm
      rw [e8, x274_6]
      simp (disch := first | assumption | omega | decide) only [x274_7, x274_8, x274_58, x274_59, ↓reduceIte, Option.toList, List.nil_append, List.cons_append, nI_add, pk_mul, n_and, n_or, n_xor, nI_leI, nI_ltI, nI_eq, n_z, uI_s, uI_n, bI_n0, bI_n1, bT, bF, if_true, if_false, not_true, not_false_eq_true, pk_div, pk_rem, Nat.reduceEqDiff, Nat.reduceLeDiff, Nat.reduceLT, Nat.reduceAdd, Nat.reduceMul, Nat.reduceSub, Nat.not_lt_zero, Nat.zero_le, reduceCtorEq, ite_self, n_rem, and_self, and_true, true_and, and_false, false_and]
      rfl
    | succ m ih =>
      intro n u5 u6 hn
      have l1 := cm_lt' (R := R) w ha (n + 1)
      have l2 := cm_lt' (R := R) w ha n
      by_cases c : cmI A R a (n + 1) = cmI A R a n
      · rw [c, x274_6, cm_st w ha (by omega) c]
        simp (disch := first | assumption | omega | decide) only [x274_7, x274_8, x274_58, x274_59, ↓reduceIte, Option.toList, List.nil_append, List.cons_append, nI_add, pk_mul, n_and, n_or, n_xor, nI_leI, nI_ltI, nI_eq, n_z, uI_s, uI_n, bI_n0, bI_n1, bT, bF, if_true, if_false, not_true, not_false_eq_true, pk_div, pk_rem, Nat.reduceEqDiff, Nat.reduceLeDiff, Nat.reduceLT, Nat.reduceAdd, Nat.reduceMul, Nat.reduceSub, Nat.not_lt_zero, Nat.zero_le, reduceCtorEq, ite_self, n_rem, and_self, and_true, true_and, and_false, false_and]
      · have c' : ¬ cmI A R a n = cmI A R a (n + 1) := fun e => c e.symm
        obtain ⟨u, q⟩ := sp_sweep (sc := sc) (d := d) (J := J) (T := T) (a := a) (R := R) (s := cmI A R a (n + 1)) (u5 := none) (u6 := u6) w mA hR l1
        rw [← ih (n + 1) (some (.int (nI (A 0)))) u (by omega), x274_6]
        simp (disch := first | assumption | omega | decide) only [x274_7, x274_8, x274_9, x274_10, x274_11, x274_12, ↓reduceIte, Option.toList, List.nil_append, List.cons_append, nI_add, pk_mul, n_and, n_or, n_xor, nI_leI, nI_ltI, nI_eq, n_z, uI_s, uI_n, bI_n0, bI_n1, bT, bF, if_true, if_false, not_true, not_false_eq_true, pk_div, pk_rem, Nat.reduceEqDiff, Nat.reduceLeDiff, Nat.reduceLT, Nat.reduceAdd, Nat.reduceMul, Nat.reduceSub, Nat.not_lt_zero, Nat.zero_le, reduceCtorEq, ite_self, n_rem, and_self, and_true, true_and, and_false, false_and, c', q]
        rfl
  obtain ⟨u, q⟩ := sp_sweep (sc := sc) (d := d) (J := J) (T := T) (a := a) (R := R) (s := 2 ^ a) (u5 := none) (u6 := none) w mA hR (p2_lt ha)
  have l0 := loop 8 0 (some (.int (nI (A 0)))) u rfl
  have p0 : ¬ 0 = 2 ^ a := fun e => by
    have := Nat.two_pow_pos a
    omega
  have pl := p2_lt ha
  simp (disch := first | assumption | omega | decide) only [x274_0, x274_1, x274_2, x274_3, x274_4, x274_5, ↓reduceIte, Option.toList, List.nil_append, List.cons_append, nI_add, pk_mul, n_and, n_or, n_xor, nI_leI, nI_ltI, nI_eq, n_z, uI_s, uI_n, bI_n0, bI_n1, bT, bF, if_true, if_false, not_true, not_false_eq_true, pk_div, pk_rem, Nat.reduceEqDiff, Nat.reduceLeDiff, Nat.reduceLT, Nat.reduceAdd, Nat.reduceMul, Nat.reduceSub, Nat.not_lt_zero, Nat.zero_le, reduceCtorEq, ite_self, n_rem, and_self, and_true, true_and, and_false, false_and, n_one]
  rw [x274_6]
  simp (disch := first | assumption | omega | decide) only [x274_7, x274_8, x274_9, x274_10, x274_11, x274_12, ↓reduceIte, Option.toList, List.nil_append, List.cons_append, nI_add, pk_mul, n_and, n_or, n_xor, nI_leI, nI_ltI, nI_eq, n_z, uI_s, uI_n, bI_n0, bI_n1, bT, bF, if_true, if_false, not_true, not_false_eq_true, pk_div, pk_rem, Nat.reduceEqDiff, Nat.reduceLeDiff, Nat.reduceLT, Nat.reduceAdd, Nat.reduceMul, Nat.reduceSub, Nat.not_lt_zero, Nat.zero_le, reduceCtorEq, ite_self, n_rem, and_self, and_true, true_and, and_false, false_and, p0, q]
  exact l0
end Come
