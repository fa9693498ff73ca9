/-! undo: the last step taken back -/
theorem sh8 {P s : Nat} (hP : P < 2 ^ 32) (hs : s ≤ 24) : nI P >>> (nI s &&& 31) &&& nI 255 = nI (P / 2 ^ s % 256) := by
  rw [pk_and _ (m := nI 255) 8 (by decide)]
  congr 1
  have e : (nI P >>> (nI s &&& 31)).toBitVec = (nI P).toBitVec.sshiftRight s := by
    show (nI P).toBitVec.sshiftRight ((nI s &&& 31).toBitVec.smod 32).toNat = _
    rw [s_l31 s (by omega)]
  rw [e]
  apply Nat.eq_of_testBit_eq
  intro i
  rw [Nat.testBit_mod_two_pow, show (256 : Nat) = 2 ^ 8 from rfl, Nat.testBit_mod_two_pow, Nat.testBit_div_two_pow]
  by_cases hi : i < 8
  · rw [decide_eq_true hi, Bool.true_and, Bool.true_and, BitVec.testBit_toNat, BitVec.getLsbD_sshiftRight, if_pos (by omega), ← BitVec.testBit_toNat, pk_tn hP, decide_eq_false (show ¬ 32 ≤ i by omega), Nat.add_comm s i]
    rfl
  · rw [decide_eq_false hi, Bool.false_and, Bool.false_and]
theorem pkN_bit {K : Nat → Nat} (hK : ∀ r, K r < 256) : ∀ (n i : Nat), (pkN K n).testBit i = (decide (i < n * 8) && (K (i / 8)).testBit (i % 8))
  | 0, i => by simp [pkN]
  | n + 1, i => by
    rw [pkN, Nat.testBit_or, pkN_bit hK n i, Nat.testBit_mul_two_pow]
    by_cases h1 : i < n * 8
    · rw [decide_eq_true h1, decide_eq_false (show ¬ n * 8 ≤ i by omega), decide_eq_true (show i < (n + 1) * 8 by omega)]
      simp
    · rw [decide_eq_false h1, decide_eq_true (show n * 8 ≤ i by omega)]
      by_cases h2 : i < (n + 1) * 8
      · rw [decide_eq_true h2, show i / 8 = n by omega, show i % 8 = i - n * 8 by omega]
        simp
      · rw [decide_eq_false h2]
        have : (K n).testBit (i - n * 8) = false := Nat.testBit_lt_two_pow (Nat.lt_of_lt_of_le (hK n) (Nat.pow_le_pow_right (show 0 < 2 by decide) (show 8 ≤ i - n * 8 by omega)))
        rw [this]
        simp
theorem pkN_lt {K : Nat → Nat} (hK : ∀ r, K r < 256) {n : Nat} (hn : n ≤ 4) : pkN K n < 2 ^ 32 := by
  apply Nat.lt_pow_two_of_testBit
  intro i hi
  rw [pkN_bit hK, decide_eq_false (show ¬ i < n * 8 by omega), Bool.false_and]
theorem pkN_get {K : Nat → Nat} (hK : ∀ r, K r < 256) (n r : Nat) : pkN K n / 2 ^ (r * 8) % 256 = if r < n then K r else 0 := by
  apply Nat.eq_of_testBit_eq
  intro i
  rw [show (256 : Nat) = 2 ^ 8 from rfl, Nat.testBit_mod_two_pow, Nat.testBit_div_two_pow, pkN_bit hK]
  by_cases hi : i < 8
  · rw [decide_eq_true hi, Bool.true_and, show (i + r * 8) / 8 = r by omega, show (i + r * 8) % 8 = i by omega]
    by_cases hr : r < n
    · rw [if_pos hr, decide_eq_true (show i + r * 8 < n * 8 by omega), Bool.true_and]
    · rw [if_neg hr, decide_eq_false (show ¬ i + r * 8 < n * 8 by omega), Bool.false_and, Nat.zero_testBit]
  · rw [decide_eq_false hi, Bool.false_and]
    split
    · exact (Nat.testBit_lt_two_pow (Nat.lt_of_lt_of_le (hK r) (Nat.pow_le_pow_right (show 0 < 2 by decide) (show 8 ≤ i by omega)))).symm
    · rw [Nat.zero_testBit]
theorem kp_z {K : Nat → Nat} {r n : Nat} (h : ∀ j, j < 8 → K j < 2 ^ n) (hr : n ≤ r) : kpN K r 8 = 0 := by
  apply Nat.eq_of_testBit_eq
  intro i
  rw [kp_bit, Nat.zero_testBit]
  by_cases hi : i < 8
  · rw [Nat.testBit_lt_two_pow (Nat.lt_of_lt_of_le (h i hi) (Nat.pow_le_pow_right (by decide) hr)), Bool.and_false]
  · rw [decide_eq_false hi, Bool.false_and]
def unX (A : Nat → Nat) : Nat := 119 + 55 * (A 4 - 1)
def unA (A : Nat → Nat) : Nat → Nat := fun k =>
  if k = 4 then A 4 - 1
  else if (28 + A (unX A) ≤ k ∧ k < 28 + A 1) ∧ k < 32 then A (k + 40)
  else if 8 ≤ k ∧ k < 32 then A (unX A + 1 + (k - 8))
  else if 1769 ≤ k ∧ k < 1799 then A (unX A + 25 + (k - 1769))
  else A k
theorem un_4 {A : Nat → Nat} : unA A 4 = A 4 - 1 := if_pos rfl
theorem un_o {A : Nat → Nat} (w : A 1 ≤ 4) {k : Nat} (h : (k < 8 ∧ k ≠ 4) ∨ (32 ≤ k ∧ k < 1769)) : unA A k = A k := by
  unfold unA
  rw [if_neg (by omega), if_neg (by omega), if_neg (by omega), if_neg (by omega)]
theorem un_8 {A : Nat → Nat} {k : Nat} (h : k < 20) : unA A (8 + k) = A (unX A + 1 + k) := by
  unfold unA
  rw [if_neg (by omega), if_neg (by omega), if_pos (by omega), Nat.add_sub_cancel_left]
theorem un_p {A : Nat → Nat} {r : Nat} (h : r < 4) : unA A (28 + r) = if A (unX A) ≤ r ∧ r < A 1 then A (68 + r) else A (unX A + 21 + r) := by
  unfold unA
  rw [if_neg (by omega)]
  by_cases c : A (unX A) ≤ r ∧ r < A 1
  · rw [if_pos (by omega), if_pos c, show 28 + r + 40 = 68 + r by omega]
  · rw [if_neg (by omega), if_pos (by omega), if_neg c, show unX A + 1 + (28 + r - 8) = unX A + 21 + r by omega]
theorem un_b {A : Nat → Nat} {i : Nat} (h : i < 30) : unA A (1769 + i) = A (unX A + 25 + i) := by
  unfold unA
  rw [if_neg (by omega), if_neg (by omega), if_neg (by omega), if_pos (by omega), Nat.add_sub_cancel_left]
theorem un_W {A : Nat → Nat} (w : Wf A) (h4 : A 4 ≠ 0) : Wf (unA A) := by
  have wA := w
  have w1 : A 1 ≤ 4 := w.1.2.1
  have w4 : A 4 ≤ 30 := w.1.2.2.2.2.1
  have fA : ∀ k, (k < 8 ∧ k ≠ 4) ∨ (32 ≤ k ∧ k < 1769) → unA A k = A k := fun k hk => un_o w1 hk
  obtain ⟨r1, r2, r3, r4, r5, r6, r7, r8, r9⟩ := w.2.2.2.2 (A 4 - 1) (by omega)
  obtain ⟨u1, u2, u3, u4, u5, u6, u7⟩ := w.2.1
  refine ⟨?_, ⟨?_, ?_, ?_, ?_, ?_, ?_, ?_⟩, (Wf3_c (fun k hk => fA k (by omega)) wA.1.1 wA.2.2.1), (Wf4_c (fun k hk => fA k (by omega)) wA.1 wA.2.2.2.1), ?_⟩
  · obtain ⟨v0, v1, v2, v3, v4, v5, v6, v7, v8, v9, v10, v11⟩ := w.1
    unfold Wf1
    rw [fA 0 (by omega), fA 1 (by omega), fA 2 (by omega), fA 3 (by omega), un_4, fA 5 (by omega), fA 6 (by omega), fA 7 (by omega), show unA A 8 = A (unX A + 1 + 0) from un_8 (k := 0) (by omega), show unA A 9 = A (unX A + 1 + 1) from un_8 (k := 1) (by omega), show unA A 10 = A (unX A + 1 + 2) from un_8 (k := 2) (by omega), show unA A 11 = A (unX A + 1 + 3) from un_8 (k := 3) (by omega)]
    exact ⟨v0, v1, v2, v3, by omega, v5, v6, v7, r2, r3, r4, r5⟩
  · intro h hh
    rw [show 12 + h = 8 + (4 + h) by omega, un_8 (by omega), show unX A + 1 + (4 + h) = unX A + 5 + h by omega, fA 1 (by omega)]
    exact Nat.lt_of_lt_of_le (r6 h hh) (Nat.pow_le_pow_right (by decide) r1)
  · intro h hh
    rw [show 20 + h = 8 + (12 + h) by omega, un_8 (by omega), show unX A + 1 + (12 + h) = unX A + 13 + h by omega]
    exact r7 h hh
  · intro h hh; rw [fA _ (by omega)]; exact u3 h hh
  · intro r hr
    rw [un_p hr]
    split
    · have := u6 r hr
      omega
    · exact r8 r hr
  · intro h hh; rw [fA _ (by omega)]; exact u5 h hh
  · intro h hh; rw [fA _ (by omega)]; exact u6 h hh
  · intro i hi
    rw [un_b hi]
    exact r9 i hi
  · intro j hj
    rw [un_4] at hj
    exact Wrow_c (A := A) (x := 119 + 55 * j) (by rw [fA 1 (by omega)]; exact Nat.le_refl _) (fun k hk => fA _ (by omega)) (w.2.2.2.2 j (by omega))
def u2 (I : Nat → Nat → Int32) (c e : Nat) (f g : Nat → Int32) (j : Nat) : Nat → Nat → Int32 := fun c' k => if c' = c ∧ k < j then f k else if c' = e ∧ k < j then g k else I c' k
theorem u2_s {I : Nat → Nat → Int32} {c e j : Nat} {f g : Nat → Int32} (h : c ≠ e) : uI (uI (u2 I c e f g j) c j (f j)) e j (g j) = u2 I c e f g (j + 1) := by
  funext c' k
  unfold uI u2
  by_cases h1 : c' = e ∧ k = j
  · rw [if_pos h1, if_neg (by omega), if_pos (by omega), h1.2]
  · rw [if_neg h1]
    by_cases h2 : c' = c ∧ k = j
    · rw [if_pos h2, if_pos (by omega), h2.2]
    · rw [if_neg h2]
      by_cases h3 : c' = c ∧ k < j
      · rw [if_pos h3, if_pos (by omega)]
      · rw [if_neg h3]
        by_cases h4 : c' = e ∧ k < j
        · rw [if_pos h4, if_neg (by omega), if_pos (by omega)]
        · rw [if_neg h4, if_neg (by omega), if_neg (by omega)]
theorem u2_z {I : Nat → Nat → Int32} {c e : Nat} {f g : Nat → Int32} : u2 I c e f g 0 = I := by
  funext c' k
  unfold u2
  rw [if_neg (by omega), if_neg (by omega)]
theorem u2_n {I : Nat → Nat → Int32} {c e j c' k : Nat} {f g : Nat → Int32} (h : (c' ≠ c ∧ c' ≠ e) ∨ j ≤ k) : u2 I c e f g j c' k = I c' k := by
  unfold u2
  rw [if_neg (by omega), if_neg (by omega)]
theorem u2_1 {I : Nat → Nat → Int32} {c e j k : Nat} {f g : Nat → Int32} (h : k < j) : u2 I c e f g j c k = f k := if_pos ⟨rfl, h⟩
theorem u2_2 {I : Nat → Nat → Int32} {c e j k : Nat} {f g : Nat → Int32} (h : c ≠ e) (hk : k < j) : u2 I c e f g j e k = g k := by
  unfold u2
  rw [if_neg (by omega), if_pos ⟨rfl, hk⟩]
section Undo
variable {TX : (Nat → Nat → Int32) → Nat → Prop} {sc : Sc} {d : Nat} {I : Nat → Nat → Int32} {J : Nat → Nat → Int64} {T : Option Nat} {A : Nat → Nat}
theorem sp_back {u2' u3 u4 : Option Value} (w : Wf A) (h4 : A 4 ≠ 0) (t : Twn I 1 2 3 4 5 6 7 8 9 A) (s : Stw I 28 29 A) : ∃ I', (∀ c k, c = 0 ∨ 9 < c ∧ c ≠ 28 → I' c k = I c k) ∧ Twn I' 1 2 3 4 5 6 7 8 9 (unA A) ∧ Stw I' 28 29 (unA A) ∧ ∀ Q, Rn sc d 57 0 [some (.ref 28), some (.ref 1), u2', u3, u4] [] (K0, I, J, R1 T) Q = Q none (K0, I', J, R1 T) := by
  have w0 : A 0 ≤ 12 := w.1.1
  have w1 : A 1 ≤ 4 := w.1.2.1
  have w4 : A 4 ≤ 30 := w.1.2.2.2.2.1
  obtain ⟨f, hf, e1, e2, s⟩ := s
  obtain ⟨n, en⟩ : ∃ n, n = A 4 - 1 := ⟨_, rfl⟩
  obtain ⟨R, eR⟩ : ∃ R, R = (f + n) % 30 * 48 := ⟨_, rfl⟩
  have hm : (f + n) % 30 < 30 := Nat.mod_lt _ (by decide)
  have hR : R + 48 ≤ 1440 := by omega
  have eX : unX A = 119 + 55 * n := by unfold unX; omega
  have sn := s n (by omega)
  rw [show 48 * ((f + n) % 30) = R by omega, ← eX] at sn
  obtain ⟨p1, p2, p3, p4, p5, p6, p7, p8, p9⟩ := sn
  obtain ⟨r1, r2, r3, r4, r5, r6, r7, r8, r9⟩ := w.2.2.2.2 n (by omega)
  rw [← eX] at r1 r2 r3 r4 r5 r6 r7 r8 r9
  obtain ⟨I1, eI⟩ : ∃ X, X = uC (uI I 28 2 (nI n)) 29 3 R 0 8 := ⟨_, rfl⟩
  have g1 : ∀ c k, c ≠ 3 ∧ c ≠ 28 → I1 c k = I c k := fun c k hc => by rw [eI, uC_n (by omega), uI_n (by omega)]
  have hK : ∀ r, kpN (fun h => A (unX A + 5 + h)) r 8 < 256 := fun r => kp_lt 8
  have lP := pkN_lt hK (show A (unX A) ≤ 4 by omega)
  have ek : ∀ r, kpr (unA A) r = kpN (fun h => A (unX A + 5 + h)) r 8 := fun r => kpN_c _ (fun h hh => by rw [show 12 + h = 8 + (4 + h) by omega, un_8 (by omega), show unX A + 1 + (4 + h) = unX A + 5 + h by omega])
  have eg : ∀ r, pkN (kpN (fun h => A (unX A + 5 + h)) · 8) (A (unX A)) / 2 ^ (r * 8) % 256 = kpr (unA A) r := fun r => by
    rw [pkN_get hK, ek]
    split
    · rfl
    · rename_i hr
      exact (kp_z (fun j hj => r6 j hj) (by omega)).symm
  have h1 := fun Q => iter0 (fun j => Rn sc d 57 37 [some (.ref 28), some (.ref 1), some (.int (nI R)), some (.int (nI (A (unX A)))), some (.int (nI j))] [] (K0, u2 I1 8 6 (fun r => nI (kpr (unA A) r)) (fun r => nI (unA A (28 + r))) j, J, R1 T) Q) (A 1) (by
    intro j hj
    show Rn _ _ _ _ _ _ _ _ = Rn _ _ _ _ _ _ _ _
    rw [← u2_s (by decide)]
    have b1 : I1 1 10 = nI (A 1) := (g1 _ _ (by omega)).trans (tw_rumours t)
    have b2 : I1 29 (R + 12) = nI (pkN (kpN (fun h => A (unX A + 5 + h)) · 8) (A (unX A))) := (g1 _ _ (by omega)).trans p3
    have b3 : nI (pkN (kpN (fun h => A (unX A + 5 + h)) · 8) (A (unX A))) >>> (nI (j * 8) &&& 31) &&& nI 255 = nI (kpr (unA A) j) := by rw [sh8 lP (by omega), eg]
    rw [x57_37]
    by_cases hc : A (unX A) ≤ j
    · have b4 : I1 7 j = nI (unA A (28 + j)) := by rw [g1 _ _ (by omega), un_p (by omega), if_pos ⟨hc, hj⟩]; exact tw_told t hj
      simp (disch := first | assumption | omega | decide) only [x57_0, x57_1, x57_2, x57_3, x57_4, x57_5, x57_6, x57_7, x57_8, x57_9, x57_10, x57_11, x57_12, x57_13, x57_14, x57_15, x57_16, x57_17, x57_18, x57_19, x57_20, x57_21, x57_22, x57_23, x57_24, x57_25, x57_26, x57_27, x57_28, x57_29, x57_30, x57_31, x57_32, x57_33, x57_34, x57_35, x57_36, x57_38, x57_39, x57_40, x57_41, x57_42, x57_43, x57_44, x57_45, x57_46, x57_47, x57_48, x57_49, x57_50, x57_51, x57_52, x57_53, x57_54, x57_55, x57_56, x57_57, x57_58, x57_59, x57_60, x57_61, x57_62, x57_63, x57_64, x57_65, x57_66, x57_67, x57_68, x57_69, x57_70, x57_71, x57_72, x57_73, x57_74, x57_75, x57_76, x57_77, x57_78, x57_79, x57_80, x57_81, x57_82, x57_83, x57_84, x57_85, x57_86, x57_87, x57_88, x57_89, x57_90, x57_91, x57_92, x57_93, x57_94, x57_95, x57_96, x57_97, x57_98, x57_99, x57_100, x57_101, x57_102, x57_103, x57_104, x57_105, x57_106, x57_107, x57_108, x57_109, x57_110, x57_111, x57_112, x57_113, x57_114, x57_115, x57_116, x57_117, x57_118, x57_119, x57_120, x57_121, ↓reduceIte, Option.toList, List.nil_append, List.cons_append, nI_add, pk_mul, n_and, n_or, n_xor, nI_leI, nI_ltI, nI_eq, n_z, uI_s, uI_n, bI_n0, bI_n1, bT, bF, if_true, if_false, not_true, not_false_eq_true, pk_div, pk_rem, Nat.reduceEqDiff, Nat.reduceLeDiff, Nat.reduceLT, Nat.reduceAdd, Nat.reduceMul, Nat.reduceSub, Nat.not_lt_zero, Nat.zero_le, reduceCtorEq, ite_self, n_rem, and_self, and_true, true_and, and_false, false_and, u2_n, b1, b2, Nat.not_le.mpr hj, ↓b3, hc, b4]
    · have b4 : I1 29 (R + 8 + j) = nI (unA A (28 + j)) := by rw [g1 _ _ (by omega), un_p (by omega), if_neg (by omega)]; exact p2 j (by omega)
      simp (disch := first | assumption | omega | decide) only [x57_0, x57_1, x57_2, x57_3, x57_4, x57_5, x57_6, x57_7, x57_8, x57_9, x57_10, x57_11, x57_12, x57_13, x57_14, x57_15, x57_16, x57_17, x57_18, x57_19, x57_20, x57_21, x57_22, x57_23, x57_24, x57_25, x57_26, x57_27, x57_28, x57_29, x57_30, x57_31, x57_32, x57_33, x57_34, x57_35, x57_36, x57_38, x57_39, x57_40, x57_41, x57_42, x57_43, x57_44, x57_45, x57_46, x57_47, x57_48, x57_49, x57_50, x57_51, x57_52, x57_53, x57_54, x57_55, x57_56, x57_57, x57_58, x57_59, x57_60, x57_61, x57_62, x57_63, x57_64, x57_65, x57_66, x57_67, x57_68, x57_69, x57_70, x57_71, x57_72, x57_73, x57_74, x57_75, x57_76, x57_77, x57_78, x57_79, x57_80, x57_81, x57_82, x57_83, x57_84, x57_85, x57_86, x57_87, x57_88, x57_89, x57_90, x57_91, x57_92, x57_93, x57_94, x57_95, x57_96, x57_97, x57_98, x57_99, x57_100, x57_101, x57_102, x57_103, x57_104, x57_105, x57_106, x57_107, x57_108, x57_109, x57_110, x57_111, x57_112, x57_113, x57_114, x57_115, x57_116, x57_117, x57_118, x57_119, x57_120, x57_121, ↓reduceIte, Option.toList, List.nil_append, List.cons_append, nI_add, pk_mul, n_and, n_or, n_xor, nI_leI, nI_ltI, nI_eq, n_z, uI_s, uI_n, bI_n0, bI_n1, bT, bF, if_true, if_false, not_true, not_false_eq_true, pk_div, pk_rem, Nat.reduceEqDiff, Nat.reduceLeDiff, Nat.reduceLT, Nat.reduceAdd, Nat.reduceMul, Nat.reduceSub, Nat.not_lt_zero, Nat.zero_le, reduceCtorEq, ite_self, n_rem, and_self, and_true, true_and, and_false, false_and, u2_n, b1, b2, Nat.not_le.mpr hj, ↓b3, hc, b4])
  obtain ⟨I2, eI2⟩ : ∃ X, X = u2 I1 8 6 (fun r => nI (kpr (unA A) r)) (fun r => nI (unA A (28 + r))) (A 1) := ⟨_, rfl⟩
  have g2 : ∀ c k, c ≠ 3 ∧ c ≠ 28 ∧ c ≠ 8 ∧ c ≠ 6 → I2 c k = I c k := fun c k hc => by rw [eI2, u2_n (by omega), g1 c k (by omega)]
  have h3 : I2 28 1 = nI f := by rw [eI2, u2_n (by omega), eI, uC_n (by omega), uI_n (by omega), e1]
  have h5 : I2 28 2 = nI n := by rw [eI2, u2_n (by omega), eI, uC_n (by omega), uI_s]
  obtain ⟨I3, eI3⟩ : ∃ X, X = uC (uI (uI (uI (uI I2 1 13 (nI (A (unX A + 3)))) 1 11 (nI (A (unX A + 1)))) 1 12 (nI (A (unX A + 2)))) 1 8 (nI (A (unX A + 4)))) 29 9 (R + 18) 0 30 := ⟨_, rfl⟩
  have g3 : ∀ c k, (c ≠ 1 ∨ (k ≠ 13 ∧ k ≠ 11 ∧ k ≠ 12 ∧ k ≠ 8)) ∧ c ≠ 9 → I3 c k = I2 c k := fun c k hc => by rw [eI3, uC_n (by omega), uI_n (by omega), uI_n (by omega), uI_n (by omega), uI_n (by omega)]
  have fA : ∀ k, (k < 8 ∧ k ≠ 4) ∨ (32 ≤ k ∧ k < 1769) → unA A k = A k := fun k hk => un_o w1 hk
  have fI : ∀ c k, (c ≠ 1 ∨ (k ≠ 13 ∧ k ≠ 11 ∧ k ≠ 12 ∧ k ≠ 8)) ∧ c ≠ 9 ∧ c ≠ 3 ∧ c ≠ 28 ∧ c ≠ 8 ∧ c ≠ 6 → I3 c k = I c k := fun c k hc => (g3 c k (by omega)).trans (g2 c k (by omega))
  have f1 : unA A 1 = A 1 := fA 1 (by omega)
  refine ⟨I3, fun c k hc => fI c k (by omega), ⟨(fun h hh => by rw [fI _ _ (by omega), fA _ (by omega)]; exact tw_rooms t hh), ?_, (fun h hh => by rw [fI _ _ (by omega), bes_c (fun k hk => fA k (by omega)) w0]; exact tw_beside t hh), (fun r hr => by rw [f1] at hr; rw [fI _ _ (by omega), fA _ (by omega)]; exact tw_truth t hr), ?_, (fun r hr => by rw [f1] at hr; rw [fI _ _ (by omega), fA _ (by omega)]; exact tw_told t hr), ?_, ?_, ?_, (by rw [fI _ _ (by omega), fA _ (by omega)]; exact tw_roads t), (by rw [fI _ _ (by omega), fA _ (by omega)]; exact tw_rumours t), ?_, ?_, ?_, (by rw [fI _ _ (by omega), fA _ (by omega)]; exact tw_texts t), (by rw [fI _ _ (by omega), fA _ (by omega)]; exact tw_ruling t)⟩, ⟨f, hf, by rw [g3 _ _ (by omega)]; exact h3, by rw [g3 _ _ (by omega), un_4, ← en]; exact h5, ?_⟩, fun Q => ?_⟩
  · intro h hh
    rw [g3 _ _ (by omega), eI2, u2_n (by omega), eI, uC_i (by omega), uI_n (by omega), Nat.sub_zero, show 20 + h = 8 + (12 + h) by omega, un_8 (by omega), show unX A + 1 + (12 + h) = unX A + 13 + h by omega]
    exact p1 h hh
  · intro r hr
    rw [f1] at hr
    rw [g3 _ _ (by omega), eI2, u2_2 (by decide) hr]
  · intro r hr
    rw [f1] at hr
    rw [g3 _ _ (by omega), eI2, u2_1 hr]
  · intro i hi
    rw [eI3, uC_i (by omega), uI_n (by omega), uI_n (by omega), uI_n (by omega), uI_n (by omega), g2 _ _ (by omega), Nat.sub_zero, un_b hi]
    exact p9 i hi
  · rw [eI3, uC_n (by omega), uI_s, show unA A 11 = A (unX A + 1 + 3) from un_8 (k := 3) (by omega)]
  · rw [eI3, uC_n (by omega), uI_n (by omega), uI_n (by omega), uI_s, show unA A 8 = A (unX A + 1 + 0) from un_8 (k := 0) (by omega)]
  · rw [eI3, uC_n (by omega), uI_n (by omega), uI_s, show unA A 9 = A (unX A + 1 + 1) from un_8 (k := 1) (by omega)]
  · rw [eI3, uC_n (by omega), uI_n (by omega), uI_n (by omega), uI_n (by omega), uI_s, show unA A 10 = A (unX A + 1 + 2) from un_8 (k := 2) (by omega)]
  · intro j hj
    rw [un_4] at hj
    exact Srow_c (Nat.le_trans (w.2.2.2.2 j (by omega)).1 w1) (fun k hk => fI _ _ (by omega)) (fun k hk => fA _ (by omega)) (s j (by omega))
  · have hz : (A 4 = 0) = False := eq_false h4
    have b13 : I1 29 (R + 13) = nI (A (unX A)) := (g1 _ _ (by omega)).trans p4
    have c1 : I2 1 10 = nI (A 1) := (g2 _ _ (by omega)).trans (tw_rumours t)
    have c14 : I2 29 (R + 14) = nI (A (unX A + 3)) := (g2 _ _ (by omega)).trans p5
    have c15 : I2 29 (R + 15) = nI (A (unX A + 1)) := (g2 _ _ (by omega)).trans p6
    have c16 : I2 29 (R + 16) = nI (A (unX A + 2)) := (g2 _ _ (by omega)).trans p7
    have c17 : I2 29 (R + 17) = nI (A (unX A + 4)) := (g2 _ _ (by omega)).trans p8
    simp (disch := first | assumption | omega | decide) only [x57_0, x57_1, x57_2, x57_3, x57_4, x57_5, x57_6, x57_7, x57_8, x57_9, x57_10, x57_11, x57_12, x57_13, x57_14, x57_15, x57_16, x57_17, x57_18, x57_19, x57_20, x57_21, x57_22, x57_23, x57_24, x57_25, x57_26, x57_27, x57_28, x57_29, x57_30, x57_31, x57_32, x57_33, x57_34, x57_35, x57_36, x57_38, x57_39, x57_40, x57_41, x57_42, x57_43, x57_44, x57_45, x57_46, x57_47, x57_48, x57_49, x57_50, x57_51, x57_52, x57_53, x57_54, x57_55, x57_56, x57_57, x57_58, x57_59, x57_60, x57_61, x57_62, x57_63, x57_64, x57_65, x57_66, x57_67, x57_68, x57_69, x57_70, x57_71, x57_72, x57_73, x57_74, x57_75, x57_76, x57_77, x57_78, x57_79, x57_80, x57_81, x57_82, x57_83, x57_84, x57_85, x57_86, x57_87, x57_88, x57_89, x57_90, x57_91, x57_92, x57_93, x57_94, x57_95, x57_96, x57_97, x57_98, x57_99, x57_100, x57_101, x57_102, x57_103, x57_104, x57_105, x57_106, x57_107, x57_108, x57_109, x57_110, x57_111, x57_112, x57_113, x57_114, x57_115, x57_116, x57_117, x57_118, x57_119, x57_120, x57_121, ↓reduceIte, Option.toList, List.nil_append, List.cons_append, nI_add, pk_mul, n_and, n_or, n_xor, nI_leI, nI_ltI, nI_eq, n_z, uI_s, uI_n, bI_n0, bI_n1, bT, bF, if_true, if_false, not_true, not_false_eq_true, pk_div, pk_rem, Nat.reduceEqDiff, Nat.reduceLeDiff, Nat.reduceLT, Nat.reduceAdd, Nat.reduceMul, Nat.reduceSub, Nat.not_lt_zero, Nat.zero_le, reduceCtorEq, ite_self, n_rem, and_self, and_true, true_and, and_false, false_and, e1, e2, hz, n_sub (show 1 ≤ A 4 by omega), en.symm, eR.symm, eI.symm, b13]
    have h1' := h1 Q
    rw [u2_z] at h1'
    refine Eq.trans h1' ?_
    show Rn _ _ _ _ _ _ _ _ = _
    rw [← eI2, x57_37]
    simp (disch := first | assumption | omega | decide) only [x57_0, x57_1, x57_2, x57_3, x57_4, x57_5, x57_6, x57_7, x57_8, x57_9, x57_10, x57_11, x57_12, x57_13, x57_14, x57_15, x57_16, x57_17, x57_18, x57_19, x57_20, x57_21, x57_22, x57_23, x57_24, x57_25, x57_26, x57_27, x57_28, x57_29, x57_30, x57_31, x57_32, x57_33, x57_34, x57_35, x57_36, x57_38, x57_39, x57_40, x57_41, x57_42, x57_43, x57_44, x57_45, x57_46, x57_47, x57_48, x57_49, x57_50, x57_51, x57_52, x57_53, x57_54, x57_55, x57_56, x57_57, x57_58, x57_59, x57_60, x57_61, x57_62, x57_63, x57_64, x57_65, x57_66, x57_67, x57_68, x57_69, x57_70, x57_71, x57_72, x57_73, x57_74, x57_75, x57_76, x57_77, x57_78, x57_79, x57_80, x57_81, x57_82, x57_83, x57_84, x57_85, x57_86, x57_87, x57_88, x57_89, x57_90, x57_91, x57_92, x57_93, x57_94, x57_95, x57_96, x57_97, x57_98, x57_99, x57_100, x57_101, x57_102, x57_103, x57_104, x57_105, x57_106, x57_107, x57_108, x57_109, x57_110, x57_111, x57_112, x57_113, x57_114, x57_115, x57_116, x57_117, x57_118, x57_119, x57_120, x57_121, ↓reduceIte, Option.toList, List.nil_append, List.cons_append, nI_add, pk_mul, n_and, n_or, n_xor, nI_leI, nI_ltI, nI_eq, n_z, uI_s, uI_n, bI_n0, bI_n1, bT, bF, if_true, if_false, not_true, not_false_eq_true, pk_div, pk_rem, Nat.reduceEqDiff, Nat.reduceLeDiff, Nat.reduceLT, Nat.reduceAdd, Nat.reduceMul, Nat.reduceSub, Nat.not_lt_zero, Nat.zero_le, reduceCtorEq, ite_self, n_rem, and_self, and_true, true_and, and_false, false_and, c1, Nat.le_refl, c14, c15, c16, c17, eI3.symm]
theorem sp_undoM {u1 u2' : Option Value} (w : Wf A) (h4 : A 4 ≠ 0) (m : AtM I 90 A) : ∃ I', (∀ c k, c ≠ 90 → I' c k = I c k) ∧ AtM I' 90 (unA A) ∧ ∀ Q, Rn sc d 242 0 [some (.ref 89), u1, u2'] [] (K0, I, J, R1 T) Q = Q (some (.int (nI (A 4 - 1)))) (K0, I', J, R1 T) := by
  have m' : ∀ k, k < 1799 → I 90 k = nI (A k) := m
  have w1 : A 1 ≤ 4 := w.1.2.1
  have w4 : A 4 ≤ 30 := w.1.2.2.2.2.1
  obtain ⟨X, eX⟩ : ∃ X, X = unX A := ⟨_, rfl⟩
  have eX2 : 119 + 55 * (A 4 - 1) = X := eX.symm
  have lX : X + 55 ≤ 1769 := by omega
  have r1 : A X ≤ A 1 := by
    have := (w.2.2.2.2 (A 4 - 1) (by omega)).1
    rwa [eX2] at this
  obtain ⟨I1, eI⟩ : ∃ Z, Z = uI I 90 4 (nI (A 4 - 1)) := ⟨_, rfl⟩
  have g1 : ∀ c k, c ≠ 90 ∨ k ≠ 4 → I1 c k = I c k := fun c k hc => by rw [eI, uI_n hc]
  have h1 := fun Q => iter0 (fun j => Rn sc d 242 26 [some (.ref 89), some (.int (nI X)), some (.int (nI j))] [] (K0, uC I1 90 90 (X + 1) 8 j, J, R1 T) Q) 24 (by
    intro j hj
    show Rn _ _ _ _ _ _ _ _ = Rn _ _ _ _ _ _ _ _
    rw [x242_26]
    simp (disch := first | assumption | omega | decide) only [x242_0, x242_1, x242_2, x242_3, x242_4, x242_5, x242_6, x242_7, x242_8, x242_9, x242_10, x242_11, x242_12, x242_13, x242_14, x242_15, x242_16, x242_17, x242_18, x242_19, x242_20, x242_21, x242_22, x242_23, x242_24, x242_25, x242_27, x242_28, x242_29, x242_30, x242_31, x242_32, x242_33, x242_34, x242_35, x242_36, x242_37, x242_38, x242_39, x242_40, x242_41, x242_42, x242_43, x242_44, x242_45, x242_46, x242_47, x242_48, x242_49, x242_51, x242_52, x242_53, x242_54, x242_55, x242_56, x242_57, x242_58, x242_59, x242_60, x242_61, x242_62, x242_63, x242_64, x242_65, x242_66, x242_67, x242_68, x242_69, x242_70, x242_71, x242_73, x242_74, x242_75, x242_76, x242_77, x242_78, x242_79, x242_80, x242_81, x242_82, x242_83, x242_84, x242_85, x242_86, x242_87, x242_88, x242_89, x242_90, x242_91, x242_92, x242_93, x242_94, x242_95, x242_96, x242_97, ↓reduceIte, Option.toList, List.nil_append, List.cons_append, nI_add, pk_mul, n_and, n_or, n_xor, nI_leI, nI_ltI, nI_eq, n_z, uI_s, uI_n, bI_n0, bI_n1, bT, bF, if_true, if_false, not_true, not_false_eq_true, pk_div, pk_rem, Nat.reduceEqDiff, Nat.reduceLeDiff, Nat.reduceLT, Nat.reduceAdd, Nat.reduceMul, Nat.reduceSub, Nat.not_lt_zero, Nat.zero_le, reduceCtorEq, ite_self, n_rem, and_self, and_true, true_and, and_false, false_and, Nat.not_le.mpr hj, uC_n, cp_g])
  obtain ⟨I2, eI2⟩ : ∃ Z, Z = uC I1 90 90 (X + 1) 8 24 := ⟨_, rfl⟩
  have g2 : ∀ c k, c ≠ 90 ∨ k < 8 ∨ 32 ≤ k → I2 c k = I1 c k := fun c k hc => by rw [eI2, uC_n (by omega)]
  have k1 : I2 90 1 = nI (A 1) := by rw [g2 _ _ (by omega), g1 _ _ (by omega), m' _ (by omega)]
  have kX : I2 90 X = nI (A X) := by rw [g2 _ _ (by omega), g1 _ _ (by omega), m' _ (by omega)]
  have h2 := fun Q => iter0 (fun j => Rn sc d 242 50 [some (.ref 89), some (.int (nI X)), some (.int (nI (A X + j)))] [] (K0, uC I2 90 90 (68 + A X) (28 + A X) j, J, R1 T) Q) (A 1 - A X) (by
    intro j hj
    show Rn _ _ _ _ _ _ _ _ = Rn _ _ _ _ _ _ _ _
    have a1 : 28 + (A X + j) = 28 + A X + j := by omega
    have a2 : 68 + (A X + j) = 68 + A X + j := by omega
    have a3 : ¬ A 1 ≤ A X + j := by omega
    have a4 : A X + j + 1 = A X + (j + 1) := by omega
    rw [x242_50]
    simp (disch := first | assumption | omega | decide) only [x242_0, x242_1, x242_2, x242_3, x242_4, x242_5, x242_6, x242_7, x242_8, x242_9, x242_10, x242_11, x242_12, x242_13, x242_14, x242_15, x242_16, x242_17, x242_18, x242_19, x242_20, x242_21, x242_22, x242_23, x242_24, x242_25, x242_27, x242_28, x242_29, x242_30, x242_31, x242_32, x242_33, x242_34, x242_35, x242_36, x242_37, x242_38, x242_39, x242_40, x242_41, x242_42, x242_43, x242_44, x242_45, x242_46, x242_47, x242_48, x242_49, x242_51, x242_52, x242_53, x242_54, x242_55, x242_56, x242_57, x242_58, x242_59, x242_60, x242_61, x242_62, x242_63, x242_64, x242_65, x242_66, x242_67, x242_68, x242_69, x242_70, x242_71, x242_73, x242_74, x242_75, x242_76, x242_77, x242_78, x242_79, x242_80, x242_81, x242_82, x242_83, x242_84, x242_85, x242_86, x242_87, x242_88, x242_89, x242_90, x242_91, x242_92, x242_93, x242_94, x242_95, x242_96, x242_97, ↓reduceIte, Option.toList, List.nil_append, List.cons_append, nI_add, pk_mul, n_and, n_or, n_xor, nI_leI, nI_ltI, nI_eq, n_z, uI_s, uI_n, bI_n0, bI_n1, bT, bF, if_true, if_false, not_true, not_false_eq_true, pk_div, pk_rem, Nat.reduceEqDiff, Nat.reduceLeDiff, Nat.reduceLT, Nat.reduceAdd, Nat.reduceMul, Nat.reduceSub, Nat.not_lt_zero, Nat.zero_le, reduceCtorEq, ite_self, n_rem, and_self, and_true, true_and, and_false, false_and, uC_n, k1, a1, a2, a3, a4, cp_g])
  obtain ⟨I3, eI3⟩ : ∃ Z, Z = uC I2 90 90 (68 + A X) (28 + A X) (A 1 - A X) := ⟨_, rfl⟩
  have g3 : ∀ c k, c ≠ 90 ∨ k < 28 ∨ 32 ≤ k → I3 c k = I2 c k := fun c k hc => by rw [eI3, uC_n (by omega)]
  have k2 : I3 90 1 = nI (A 1) := by rw [g3 _ _ (by omega), k1]
  have h3 := fun Q => iter0 (fun j => Rn sc d 242 72 [some (.ref 89), some (.int (nI X)), some (.int (nI j))] [] (K0, uC I3 90 90 (X + 25) 1769 j, J, R1 T) Q) 30 (by
    intro j hj
    show Rn _ _ _ _ _ _ _ _ = Rn _ _ _ _ _ _ _ _
    rw [x242_72]
    simp (disch := first | assumption | omega | decide) only [x242_0, x242_1, x242_2, x242_3, x242_4, x242_5, x242_6, x242_7, x242_8, x242_9, x242_10, x242_11, x242_12, x242_13, x242_14, x242_15, x242_16, x242_17, x242_18, x242_19, x242_20, x242_21, x242_22, x242_23, x242_24, x242_25, x242_27, x242_28, x242_29, x242_30, x242_31, x242_32, x242_33, x242_34, x242_35, x242_36, x242_37, x242_38, x242_39, x242_40, x242_41, x242_42, x242_43, x242_44, x242_45, x242_46, x242_47, x242_48, x242_49, x242_51, x242_52, x242_53, x242_54, x242_55, x242_56, x242_57, x242_58, x242_59, x242_60, x242_61, x242_62, x242_63, x242_64, x242_65, x242_66, x242_67, x242_68, x242_69, x242_70, x242_71, x242_73, x242_74, x242_75, x242_76, x242_77, x242_78, x242_79, x242_80, x242_81, x242_82, x242_83, x242_84, x242_85, x242_86, x242_87, x242_88, x242_89, x242_90, x242_91, x242_92, x242_93, x242_94, x242_95, x242_96, x242_97, ↓reduceIte, Option.toList, List.nil_append, List.cons_append, nI_add, pk_mul, n_and, n_or, n_xor, nI_leI, nI_ltI, nI_eq, n_z, uI_s, uI_n, bI_n0, bI_n1, bT, bF, if_true, if_false, not_true, not_false_eq_true, pk_div, pk_rem, Nat.reduceEqDiff, Nat.reduceLeDiff, Nat.reduceLT, Nat.reduceAdd, Nat.reduceMul, Nat.reduceSub, Nat.not_lt_zero, Nat.zero_le, reduceCtorEq, ite_self, n_rem, and_self, and_true, true_and, and_false, false_and, Nat.not_le.mpr hj, uC_n, (rfl : X + 1 + 24 = X + 25), cp_g])
  have k4 : I3 90 4 = nI (A 4 - 1) := by rw [g3 _ _ (by omega), g2 _ _ (by omega), eI, uI_s]
  refine ⟨uC I3 90 90 (X + 25) 1769 30, fun c k hc => ?_, fun k hk => ?_, fun Q => ?_⟩
  · rw [uC_n (by omega), g3 _ _ (by omega), g2 _ _ (by omega), g1 _ _ (by omega)]
  · unfold unA
    rw [← eX]
    by_cases c1 : k = 4
    · rw [if_pos c1, uC_n (by omega), c1, k4]
    · rw [if_neg c1]
      by_cases c2 : (28 + A X ≤ k ∧ k < 28 + A 1) ∧ k < 32
      · rw [if_pos c2, uC_n (by omega), eI3, uC_i (by omega), g2 _ _ (by omega), g1 _ _ (by omega), m' _ (by omega), show 68 + A X + (k - (28 + A X)) = k + 40 by omega]
      · rw [if_neg c2]
        by_cases c3 : 8 ≤ k ∧ k < 32
        · rw [if_pos c3, uC_n (by omega), eI3, uC_n (by omega), eI2, uC_i (by omega), g1 _ _ (by omega), m' _ (by omega)]
        · rw [if_neg c3]
          by_cases c4 : 1769 ≤ k ∧ k < 1799
          · rw [if_pos c4, uC_i (by omega), g3 _ _ (by omega), g2 _ _ (by omega), g1 _ _ (by omega), m' _ (by omega)]
          · rw [if_neg c4, uC_n (by omega), g3 _ _ (by omega), g2 _ _ (by omega), g1 _ _ (by omega), m' _ (by omega)]
  · have hz : (A 4 = 0) = False := eq_false h4
    have h1' := h1 Q
    have h2' := h2 Q
    have h3' := h3 Q
    rw [cp_z] at h1' h2' h3'
    simp (disch := first | assumption | omega | decide) only [x242_0, x242_1, x242_2, x242_3, x242_4, x242_5, x242_6, x242_7, x242_8, x242_9, x242_10, x242_11, x242_12, x242_13, x242_14, x242_15, x242_16, x242_17, x242_18, x242_19, x242_20, x242_21, x242_22, x242_23, x242_24, x242_25, ↓reduceIte, Option.toList, List.nil_append, List.cons_append, nI_add, pk_mul, n_and, n_or, n_xor, nI_leI, nI_ltI, nI_eq, n_z, uI_s, uI_n, bI_n0, bI_n1, bT, bF, if_true, if_false, not_true, not_false_eq_true, pk_div, pk_rem, Nat.reduceEqDiff, Nat.reduceLeDiff, Nat.reduceLT, Nat.reduceAdd, Nat.reduceMul, Nat.reduceSub, Nat.not_lt_zero, Nat.zero_le, reduceCtorEq, ite_self, n_rem, and_self, and_true, true_and, and_false, false_and, m', hz, n_sub, eI.symm, eX2]
    have k5 : I1 90 4 = nI (A 4 - 1) := by rw [eI, uI_s]
    simp (disch := first | assumption | omega | decide) only [x242_0, x242_1, x242_2, x242_3, x242_4, x242_5, x242_6, x242_7, x242_8, x242_9, x242_10, x242_11, x242_12, x242_13, x242_14, x242_15, x242_16, x242_17, x242_18, x242_19, x242_20, x242_21, x242_22, x242_23, x242_24, x242_25, ↓reduceIte, Option.toList, List.nil_append, List.cons_append, nI_add, pk_mul, n_and, n_or, n_xor, nI_leI, nI_ltI, nI_eq, n_z, uI_s, uI_n, bI_n0, bI_n1, bT, bF, if_true, if_false, not_true, not_false_eq_true, pk_div, pk_rem, Nat.reduceEqDiff, Nat.reduceLeDiff, Nat.reduceLT, Nat.reduceAdd, Nat.reduceMul, Nat.reduceSub, Nat.not_lt_zero, Nat.zero_le, reduceCtorEq, ite_self, n_rem, and_self, and_true, true_and, and_false, false_and, k5, eX2]
    refine Eq.trans h1' ?_
    show Rn _ _ _ _ _ _ _ _ = _
    rw [← eI2, x242_26]
    simp (disch := first | assumption | omega | decide) only [x242_0, x242_1, x242_2, x242_3, x242_4, x242_5, x242_6, x242_7, x242_8, x242_9, x242_10, x242_11, x242_12, x242_13, x242_14, x242_15, x242_16, x242_17, x242_18, x242_19, x242_20, x242_21, x242_22, x242_23, x242_24, x242_25, x242_27, x242_28, x242_29, x242_30, x242_31, x242_32, x242_33, x242_34, x242_35, x242_36, x242_37, x242_38, x242_39, x242_40, x242_41, x242_42, x242_43, x242_44, x242_45, x242_46, x242_47, x242_48, x242_49, x242_51, x242_52, x242_53, x242_54, x242_55, x242_56, x242_57, x242_58, x242_59, x242_60, x242_61, x242_62, x242_63, x242_64, x242_65, x242_66, x242_67, x242_68, x242_69, x242_70, x242_71, x242_73, x242_74, x242_75, x242_76, x242_77, x242_78, x242_79, x242_80, x242_81, x242_82, x242_83, x242_84, x242_85, x242_86, x242_87, x242_88, x242_89, x242_90, x242_91, x242_92, x242_93, x242_94, x242_95, x242_96, x242_97, ↓reduceIte, Option.toList, List.nil_append, List.cons_append, nI_add, pk_mul, n_and, n_or, n_xor, nI_leI, nI_ltI, nI_eq, n_z, uI_s, uI_n, bI_n0, bI_n1, bT, bF, if_true, if_false, not_true, not_false_eq_true, pk_div, pk_rem, Nat.reduceEqDiff, Nat.reduceLeDiff, Nat.reduceLT, Nat.reduceAdd, Nat.reduceMul, Nat.reduceSub, Nat.not_lt_zero, Nat.zero_le, reduceCtorEq, ite_self, n_rem, and_self, and_true, true_and, and_false, false_and, kX]
    refine Eq.trans h2' ?_
    show Rn _ _ _ _ _ _ _ _ = _
    rw [← eI3, show A X + (A 1 - A X) = A 1 by omega, x242_50]
    simp (disch := first | assumption | omega | decide) only [x242_0, x242_1, x242_2, x242_3, x242_4, x242_5, x242_6, x242_7, x242_8, x242_9, x242_10, x242_11, x242_12, x242_13, x242_14, x242_15, x242_16, x242_17, x242_18, x242_19, x242_20, x242_21, x242_22, x242_23, x242_24, x242_25, x242_27, x242_28, x242_29, x242_30, x242_31, x242_32, x242_33, x242_34, x242_35, x242_36, x242_37, x242_38, x242_39, x242_40, x242_41, x242_42, x242_43, x242_44, x242_45, x242_46, x242_47, x242_48, x242_49, x242_51, x242_52, x242_53, x242_54, x242_55, x242_56, x242_57, x242_58, x242_59, x242_60, x242_61, x242_62, x242_63, x242_64, x242_65, x242_66, x242_67, x242_68, x242_69, x242_70, x242_71, x242_73, x242_74, x242_75, x242_76, x242_77, x242_78, x242_79, x242_80, x242_81, x242_82, x242_83, x242_84, x242_85, x242_86, x242_87, x242_88, x242_89, x242_90, x242_91, x242_92, x242_93, x242_94, x242_95, x242_96, x242_97, ↓reduceIte, Option.toList, List.nil_append, List.cons_append, nI_add, pk_mul, n_and, n_or, n_xor, nI_leI, nI_ltI, nI_eq, n_z, uI_s, uI_n, bI_n0, bI_n1, bT, bF, if_true, if_false, not_true, not_false_eq_true, pk_div, pk_rem, Nat.reduceEqDiff, Nat.reduceLeDiff, Nat.reduceLT, Nat.reduceAdd, Nat.reduceMul, Nat.reduceSub, Nat.not_lt_zero, Nat.zero_le, reduceCtorEq, ite_self, n_rem, and_self, and_true, true_and, and_false, false_and, k2, Nat.le_refl]
    refine Eq.trans h3' ?_
    show Rn _ _ _ _ _ _ _ _ = _
    rw [x242_72]
    simp (disch := first | assumption | omega | decide) only [x242_0, x242_1, x242_2, x242_3, x242_4, x242_5, x242_6, x242_7, x242_8, x242_9, x242_10, x242_11, x242_12, x242_13, x242_14, x242_15, x242_16, x242_17, x242_18, x242_19, x242_20, x242_21, x242_22, x242_23, x242_24, x242_25, x242_27, x242_28, x242_29, x242_30, x242_31, x242_32, x242_33, x242_34, x242_35, x242_36, x242_37, x242_38, x242_39, x242_40, x242_41, x242_42, x242_43, x242_44, x242_45, x242_46, x242_47, x242_48, x242_49, x242_51, x242_52, x242_53, x242_54, x242_55, x242_56, x242_57, x242_58, x242_59, x242_60, x242_61, x242_62, x242_63, x242_64, x242_65, x242_66, x242_67, x242_68, x242_69, x242_70, x242_71, x242_73, x242_74, x242_75, x242_76, x242_77, x242_78, x242_79, x242_80, x242_81, x242_82, x242_83, x242_84, x242_85, x242_86, x242_87, x242_88, x242_89, x242_90, x242_91, x242_92, x242_93, x242_94, x242_95, x242_96, x242_97, ↓reduceIte, Option.toList, List.nil_append, List.cons_append, nI_add, pk_mul, n_and, n_or, n_xor, nI_leI, nI_ltI, nI_eq, n_z, uI_s, uI_n, bI_n0, bI_n1, bT, bF, if_true, if_false, not_true, not_false_eq_true, pk_div, pk_rem, Nat.reduceEqDiff, Nat.reduceLeDiff, Nat.reduceLT, Nat.reduceAdd, Nat.reduceMul, Nat.reduceSub, Nat.not_lt_zero, Nat.zero_le, reduceCtorEq, ite_self, n_rem, and_self, and_true, true_and, and_false, false_and, uC_n, k4]
theorem jt_undo : Jt TX sc (d + 5) 124 242 [some (.ref 0)] [some (.ref 89), none, none] := by
  intro A B M w _
  have w' := w
  obtain ⟨wA, wB, wt⟩ := w
  have w1 : A 1 ≤ 4 := wA.1.2.1
  have w4 : A 4 ≤ 30 := wA.1.2.2.2.2.1
  by_cases h4 : A 4 = 0
  · refine jtR w' (-1) ?_ ?_ <;> intro I J T Q hI
    · obtain ⟨f, hf, e1, e2, -⟩ := hI.2.2.1
      simp (disch := first | assumption | omega | decide) only [x124_0, x124_1, x124_2, x124_3, x124_4, x124_5, x124_6, x124_7, x124_8, x124_9, x124_10, x124_11, x124_12, x124_13, x124_14, ↓reduceIte, Option.toList, List.nil_append, List.cons_append, nI_add, pk_mul, n_and, n_or, n_xor, nI_leI, nI_ltI, nI_eq, n_z, uI_s, uI_n, bI_n0, bI_n1, bT, bF, if_true, if_false, not_true, not_false_eq_true, pk_div, pk_rem, Nat.reduceEqDiff, Nat.reduceLeDiff, Nat.reduceLT, Nat.reduceAdd, Nat.reduceMul, Nat.reduceSub, Nat.not_lt_zero, Nat.zero_le, reduceCtorEq, ite_self, n_rem, and_self, and_true, true_and, and_false, false_and, e2, h4]
    · simp (disch := first | assumption | omega | decide) only [x242_0, x242_1, x242_2, x242_3, x242_4, x242_5, x242_6, x242_7, x242_8, x242_9, x242_10, x242_11, x242_12, x242_13, x242_14, x242_15, x242_16, x242_17, x242_18, x242_19, x242_20, x242_21, x242_22, x242_23, x242_24, x242_25, x242_27, x242_28, x242_29, x242_30, x242_31, x242_32, x242_33, x242_34, x242_35, x242_36, x242_37, x242_38, x242_39, x242_40, x242_41, x242_42, x242_43, x242_44, x242_45, x242_46, x242_47, x242_48, x242_49, x242_51, x242_52, x242_53, x242_54, x242_55, x242_56, x242_57, x242_58, x242_59, x242_60, x242_61, x242_62, x242_63, x242_64, x242_65, x242_66, x242_67, x242_68, x242_69, x242_70, x242_71, x242_73, x242_74, x242_75, x242_76, x242_77, x242_78, x242_79, x242_80, x242_81, x242_82, x242_83, x242_84, x242_85, x242_86, x242_87, x242_88, x242_89, x242_90, x242_91, x242_92, x242_93, x242_94, x242_95, x242_96, x242_97, ↓reduceIte, Option.toList, List.nil_append, List.cons_append, nI_add, pk_mul, n_and, n_or, n_xor, nI_leI, nI_ltI, nI_eq, n_z, uI_s, uI_n, bI_n0, bI_n1, bT, bF, if_true, if_false, not_true, not_false_eq_true, pk_div, pk_rem, Nat.reduceEqDiff, Nat.reduceLeDiff, Nat.reduceLT, Nat.reduceAdd, Nat.reduceMul, Nat.reduceSub, Nat.not_lt_zero, Nat.zero_le, reduceCtorEq, ite_self, n_rem, and_self, and_true, true_and, and_false, false_and, hI.1 4 (by decide), h4]
  · have f2 : unA A 2 = A 2 := un_o w1 (by omega)
    refine ⟨nI (A 4 - 1), unA A, B, ⟨un_W wA h4, wB, by omega⟩, by omega, ?_, ?_⟩
    · intro I J T hC _
      obtain ⟨I1, f1, t1, s1, q1⟩ := sp_back (sc := sc) (d := d + 4) (J := J) (T := T) (u2' := none) (u3 := none) (u4 := none) wA h4 hC.1 hC.2.2.1
      refine ⟨I1, fun c k hc => f1 c k (by omega), CI_sv w' hC t1 s1 (fun k hk => un_o w1 (by omega)) (fun c k hc => f1 c k (by omega)), fun Q => ?_⟩
      obtain ⟨f, hf, e1, e2, -⟩ := hC.2.2.1
      obtain ⟨f', hf', e1', e2', -⟩ := s1
      rw [un_4] at e2'
      have hz : (A 4 = 0) = False := eq_false h4
      simp (disch := first | assumption | omega | decide) only [x124_0, x124_1, x124_2, x124_3, x124_4, x124_5, x124_6, x124_7, x124_8, x124_9, x124_10, x124_11, x124_12, x124_13, x124_14, ↓reduceIte, Option.toList, List.nil_append, List.cons_append, nI_add, pk_mul, n_and, n_or, n_xor, nI_leI, nI_ltI, nI_eq, n_z, uI_s, uI_n, bI_n0, bI_n1, bT, bF, if_true, if_false, not_true, not_false_eq_true, pk_div, pk_rem, Nat.reduceEqDiff, Nat.reduceLeDiff, Nat.reduceLT, Nat.reduceAdd, Nat.reduceMul, Nat.reduceSub, Nat.not_lt_zero, Nat.zero_le, reduceCtorEq, ite_self, n_rem, and_self, and_true, true_and, and_false, false_and, e2, hz, q1, e2']
    · intro I J T hM _
      obtain ⟨I1, f1, a1, q1⟩ := sp_undoM (sc := sc) (d := d + 5) (J := J) (T := T) (u1 := none) (u2' := none) wA h4 hM.1
      exact ⟨I1, J, ⟨fun c k hc => f1 c k (by omega), fun k hk => f1 _ _ (by omega)⟩, ⟨a1, AtM_c hM.2.1 (fun k => f1 _ _ (by omega)), (f1 _ _ (by omega)).trans hM.2.2⟩, q1⟩
end Undo
