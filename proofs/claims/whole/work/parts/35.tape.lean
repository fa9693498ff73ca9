/-! feed, end, fault, about -/
def by4 (x : Int32) (j : Nat) : Int32 := x >>> (nI (24 - 8 * j) &&& 31) &&& nI 255
theorem by4_v (x : Int32) (j : Nat) : ∃ v, v < 256 ∧ by4 x j = nI v := by
  refine ⟨_, ?_, pk_and _ (m := nI 255) 8 (by decide)⟩
  exact Nat.mod_lt _ (by decide)
theorem i24 : nI 24 + (-8) = nI 16 := by decide
theorem i16 : nI 16 + (-8) = nI 8 := by decide
theorem i8 : nI 8 + (-8) = nI 0 := by decide
theorem i0 : nI 0 + (-8) = -8 := by decide
theorem i8n : ((-8 : Int32) < nI 0) = True := by decide
def fd5 (x1 x2 x3 x4 x5 : Int32) (j : Nat) : Int32 := by4 (if j < 4 then x1 else if j < 8 then x2 else if j < 12 then x3 else if j < 16 then x4 else x5) (j % 4)
theorem fd5_v (x1 x2 x3 x4 x5 : Int32) (j : Nat) : ∃ v, v < 256 ∧ fd5 x1 x2 x3 x4 x5 j = nI v := by4_v _ _
section Tape
variable {TX : (Nat → Nat → Int32) → Nat → Prop} {sc : Sc} {d : Nat} {I : Nat → Nat → Int32} {J : Nat → Nat → Int64} {T : Option Nat}
theorem Inv_t {I I2 : Nat → Nat → Int32} {J J2 : Nat → Nat → Int64} {T T2 : Option Nat} (h : Inv TX I J T) (f : ∀ c k, c ≤ 66 ∨ (90 ≤ c ∧ c ≤ 92) → I2 c k = I c k) (f2 : I2 89 23 = I 89 23) (t : Tpe I2) : Inv TX I2 J2 T2 := by
  obtain ⟨A, B, hC, hM, hW, -, hX⟩ := h
  refine ⟨A, B, CI_c hW hC (fun c k hc => f c k (by omega)), MI_c hM (fun c k hc => f c k (by omega)) f2, hW, t, ?_⟩
  rw [txI_c (fun c k hc => f c k (by omega))]
  exact hX
theorem sp_take {n : Nat} {x : Int32} {u : Option Value} (h : n + 4 ≤ 300) (e : I 67 1 = nI n) : ∃ I', (∀ c k, (c ≠ 67 ∨ k ≠ 1) ∧ (c ≠ 68 ∨ k < n ∨ n + 4 ≤ k) → I' c k = I c k) ∧ I' 67 1 = nI (n + 4) ∧ (∀ j, j < 4 → I' 68 (n + j) = by4 x j) ∧ ∀ Q, Rn sc d 30 0 [some (.ref 67), some (.int x), u] [] (K0, I, J, R1 T) Q = Q none (K0, I', J, R1 T) := by
  have g1 : ¬ 300 ≤ n := by omega
  have g2 : ¬ 300 ≤ n + 1 := by omega
  have g3 : ¬ 300 ≤ n + 2 := by omega
  have g4 : ¬ 300 ≤ n + 3 := by omega
  apply Exists.intro
  refine ⟨?f, ?l, ?b, fun Q => ?q⟩
  case q =>
    simp (disch := first | assumption | omega | decide) only [x30_0, x30_1, x30_3, x30_4, x30_5, x30_6, x30_7, x30_8, x30_9, x30_10, x30_11, x30_12, x30_13, x30_14, x30_15, x30_16, x30_17, x30_18, x30_19, x30_20, x30_21, x30_22, x30_23, x30_24, x30_25, x30_26, x30_2, ↓reduceIte, Option.toList, List.nil_append, List.cons_append, nI_add, pk_mul, n_and, n_or, n_xor, nI_leI, nI_ltI, nI_eq, n_z, uI_s, uI_n, bI_n0, bI_n1, bT, bF, if_true, if_false, not_true, not_false_eq_true, pk_div, pk_rem, Nat.reduceEqDiff, Nat.reduceLeDiff, Nat.reduceLT, Nat.reduceAdd, Nat.reduceMul, Nat.reduceSub, Nat.not_lt_zero, Nat.zero_le, reduceCtorEq, ite_self, n_rem, and_self, and_true, true_and, and_false, false_and, e, i24, i16, i8, i0, i8n, g1, g2, g3, g4, Nat.add_assoc]
    rfl
  case f =>
    intro c k hc
    simp (disch := first | assumption | omega | decide) only [uI_n]
  case l => simp (disch := first | assumption | omega | decide) only [uI_s]
  case b =>
    intro j hj
    have hj' : j = 0 ∨ j = 1 ∨ j = 2 ∨ j = 3 := by omega
    rcases hj' with rfl | rfl | rfl | rfl
    · simp (disch := first | assumption | omega | decide) only [uI_s, uI_n, uI_e, Nat.add_zero]
      rfl
    · simp (disch := first | assumption | omega | decide) only [uI_s, uI_n, uI_e]
      rfl
    · simp (disch := first | assumption | omega | decide) only [uI_s, uI_n, uI_e]
      rfl
    · simp (disch := first | assumption | omega | decide) only [uI_s, uI_n, uI_e]
      rfl
theorem sp_four {n : Nat} {x : Int32} {u : Option Value} (h : n + 4 ≤ 300) (e : I 89 4 = nI n) : ∃ I', (∀ c k, (c ≠ 89 ∨ k ≠ 4) ∧ (c ≠ 93 ∨ k < n ∨ n + 4 ≤ k) → I' c k = I c k) ∧ I' 89 4 = nI (n + 4) ∧ (∀ j, j < 4 → I' 93 (n + j) = by4 x j) ∧ ∀ Q, Rn sc d 180 0 [some (.ref 89), some (.int x), u] [] (K0, I, J, R1 T) Q = Q none (K0, I', J, R1 T) := by
  apply Exists.intro
  refine ⟨?f, ?l, ?b, fun Q => ?q⟩
  case q =>
    simp (disch := first | assumption | omega | decide) only [x180_0, x180_1, x180_3, x180_4, x180_5, x180_6, x180_7, x180_8, x180_9, x180_10, x180_11, x180_12, x180_13, x180_14, x180_15, x180_16, x180_17, x180_18, x180_19, x180_20, x180_21, x180_22, x180_2, ↓reduceIte, Option.toList, List.nil_append, List.cons_append, nI_add, pk_mul, n_and, n_or, n_xor, nI_leI, nI_ltI, nI_eq, n_z, uI_s, uI_n, bI_n0, bI_n1, bT, bF, if_true, if_false, not_true, not_false_eq_true, pk_div, pk_rem, Nat.reduceEqDiff, Nat.reduceLeDiff, Nat.reduceLT, Nat.reduceAdd, Nat.reduceMul, Nat.reduceSub, Nat.not_lt_zero, Nat.zero_le, reduceCtorEq, ite_self, n_rem, and_self, and_true, true_and, and_false, false_and, e, i24, i16, i8, i0, i8n, Nat.add_assoc]
    rfl
  case f =>
    intro c k hc
    simp (disch := first | assumption | omega | decide) only [uI_n]
  case l => simp (disch := first | assumption | omega | decide) only [uI_s]
  case b =>
    intro j hj
    have hj' : j = 0 ∨ j = 1 ∨ j = 2 ∨ j = 3 := by omega
    rcases hj' with rfl | rfl | rfl | rfl
    · simp (disch := first | assumption | omega | decide) only [uI_s, uI_n, uI_e, Nat.add_zero]
      rfl
    · simp (disch := first | assumption | omega | decide) only [uI_s, uI_n, uI_e]
      rfl
    · simp (disch := first | assumption | omega | decide) only [uI_s, uI_n, uI_e]
      rfl
    · simp (disch := first | assumption | omega | decide) only [uI_s, uI_n, uI_e]
      rfl
theorem sp_feedC {n : Nat} {x1 x2 x3 x4 x5 : Int32} (h : n + 20 ≤ 300) (e : I 67 1 = nI n) : ∃ I', (∀ c k, (c ≠ 67 ∨ k ≠ 1) ∧ (c ≠ 68 ∨ k < n ∨ n + 20 ≤ k) → I' c k = I c k) ∧ I' 67 1 = nI (n + 20) ∧ (∀ j, j < 20 → I' 68 (n + j) = fd5 x1 x2 x3 x4 x5 j) ∧ ∀ Q, Rn sc (d + 1) 111 0 [some (.ref 0), some (.int x1), some (.int x2), some (.int x3), some (.int x4), some (.int x5)] [] (K0, I, J, R1 T) Q = Q (some (.int (nI (n + 20)))) (K0, I', J, R1 T) := by
  obtain ⟨I1, f1, l1, b1, q1⟩ := sp_take (sc := sc) (d := d) (I := I) (J := J) (T := T) (x := x1) (u := none) (n := n) (by omega) e
  obtain ⟨I2, f2, l2, b2, q2⟩ := sp_take (sc := sc) (d := d) (I := I1) (J := J) (T := T) (x := x2) (u := none) (n := n + 4) (by omega) l1
  obtain ⟨I3, f3, l3, b3, q3⟩ := sp_take (sc := sc) (d := d) (I := I2) (J := J) (T := T) (x := x3) (u := none) (n := n + 4 + 4) (by omega) l2
  obtain ⟨I4, f4, l4, b4, q4⟩ := sp_take (sc := sc) (d := d) (I := I3) (J := J) (T := T) (x := x4) (u := none) (n := n + 4 + 4 + 4) (by omega) l3
  obtain ⟨I5, f5, l5, b5, q5⟩ := sp_take (sc := sc) (d := d) (I := I4) (J := J) (T := T) (x := x5) (u := none) (n := n + 4 + 4 + 4 + 4) (by omega) l4
  refine ⟨I5, ?_, l5, ?_, ?_⟩
  · intro c k hc
    rw [f5 c k (by omega), f4 c k (by omega), f3 c k (by omega), f2 c k (by omega), f1 c k (by omega)]
  · intro j hj
    unfold fd5
    by_cases h1 : j < 4
    · rw [if_pos h1, Nat.mod_eq_of_lt h1, ← b1 j h1, f5 _ _ (by omega), f4 _ _ (by omega), f3 _ _ (by omega), f2 _ _ (by omega)]
    · rw [if_neg h1]
      by_cases h2 : j < 8
      · rw [if_pos h2, show j % 4 = j - 4 by omega, ← b2 (j - 4) (by omega), show n + 4 + (j - 4) = n + j by omega, f5 _ _ (by omega), f4 _ _ (by omega), f3 _ _ (by omega)]
      · rw [if_neg h2]
        by_cases h3 : j < 12
        · rw [if_pos h3, show j % 4 = j - 8 by omega, ← b3 (j - 8) (by omega), show n + 4 + 4 + (j - 8) = n + j by omega, f5 _ _ (by omega), f4 _ _ (by omega)]
        · rw [if_neg h3]
          by_cases h4 : j < 16
          · rw [if_pos h4, show j % 4 = j - 12 by omega, ← b4 (j - 12) (by omega), show n + 4 + 4 + 4 + (j - 12) = n + j by omega, f5 _ _ (by omega)]
          · rw [if_neg h4, show j % 4 = j - 16 by omega, ← b5 (j - 16) (by omega), show n + 4 + 4 + 4 + 4 + (j - 16) = n + j by omega]
  · intro Q
    have g : n + 20 ≤ 300 := h
    simp (disch := first | assumption | omega | decide) only [x111_0, x111_1, x111_2, x111_3, x111_4, x111_5, x111_6, x111_7, x111_8, x111_9, x111_10, x111_11, x111_12, x111_13, x111_14, x111_15, x111_16, x111_17, x111_18, x111_19, x111_20, x111_21, x111_22, x111_23, x111_24, x111_25, x111_26, x111_27, x111_28, x111_29, x111_30, x111_31, x111_32, ↓reduceIte, Option.toList, List.nil_append, List.cons_append, nI_add, pk_mul, n_and, n_or, n_xor, nI_leI, nI_ltI, nI_eq, n_z, uI_s, uI_n, bI_n0, bI_n1, bT, bF, if_true, if_false, not_true, not_false_eq_true, pk_div, pk_rem, Nat.reduceEqDiff, Nat.reduceLeDiff, Nat.reduceLT, Nat.reduceAdd, Nat.reduceMul, Nat.reduceSub, Nat.not_lt_zero, Nat.zero_le, reduceCtorEq, ite_self, n_rem, and_self, and_true, true_and, and_false, false_and, e, g, q1, q2, q3, q4, q5, l5, Nat.add_assoc]
theorem sp_feedM {n : Nat} {x1 x2 x3 x4 x5 : Int32} (h : n + 20 ≤ 300) (e : I 89 4 = nI n) : ∃ I', (∀ c k, (c ≠ 89 ∨ k ≠ 4) ∧ (c ≠ 93 ∨ k < n ∨ n + 20 ≤ k) → I' c k = I c k) ∧ I' 89 4 = nI (n + 20) ∧ (∀ j, j < 20 → I' 93 (n + j) = fd5 x1 x2 x3 x4 x5 j) ∧ ∀ Q, Rn sc (d + 1) 181 0 [some (.ref 89), some (.int x1), some (.int x2), some (.int x3), some (.int x4), some (.int x5)] [] (K0, I, J, R1 T) Q = Q (some (.int (nI (n + 20)))) (K0, I', J, R1 T) := by
  obtain ⟨I1, f1, l1, b1, q1⟩ := sp_four (sc := sc) (d := d) (I := I) (J := J) (T := T) (x := x1) (u := none) (n := n) (by omega) e
  obtain ⟨I2, f2, l2, b2, q2⟩ := sp_four (sc := sc) (d := d) (I := I1) (J := J) (T := T) (x := x2) (u := none) (n := n + 4) (by omega) l1
  obtain ⟨I3, f3, l3, b3, q3⟩ := sp_four (sc := sc) (d := d) (I := I2) (J := J) (T := T) (x := x3) (u := none) (n := n + 4 + 4) (by omega) l2
  obtain ⟨I4, f4, l4, b4, q4⟩ := sp_four (sc := sc) (d := d) (I := I3) (J := J) (T := T) (x := x4) (u := none) (n := n + 4 + 4 + 4) (by omega) l3
  obtain ⟨I5, f5, l5, b5, q5⟩ := sp_four (sc := sc) (d := d) (I := I4) (J := J) (T := T) (x := x5) (u := none) (n := n + 4 + 4 + 4 + 4) (by omega) l4
  refine ⟨I5, ?_, l5, ?_, ?_⟩
  · intro c k hc
    rw [f5 c k (by omega), f4 c k (by omega), f3 c k (by omega), f2 c k (by omega), f1 c k (by omega)]
  · intro j hj
    unfold fd5
    by_cases h1 : j < 4
    · rw [if_pos h1, Nat.mod_eq_of_lt h1, ← b1 j h1, f5 _ _ (by omega), f4 _ _ (by omega), f3 _ _ (by omega), f2 _ _ (by omega)]
    · rw [if_neg h1]
      by_cases h2 : j < 8
      · rw [if_pos h2, show j % 4 = j - 4 by omega, ← b2 (j - 4) (by omega), show n + 4 + (j - 4) = n + j by omega, f5 _ _ (by omega), f4 _ _ (by omega), f3 _ _ (by omega)]
      · rw [if_neg h2]
        by_cases h3 : j < 12
        · rw [if_pos h3, show j % 4 = j - 8 by omega, ← b3 (j - 8) (by omega), show n + 4 + 4 + (j - 8) = n + j by omega, f5 _ _ (by omega), f4 _ _ (by omega)]
        · rw [if_neg h3]
          by_cases h4 : j < 16
          · rw [if_pos h4, show j % 4 = j - 12 by omega, ← b4 (j - 12) (by omega), show n + 4 + 4 + 4 + (j - 12) = n + j by omega, f5 _ _ (by omega)]
          · rw [if_neg h4, show j % 4 = j - 16 by omega, ← b5 (j - 16) (by omega), show n + 4 + 4 + 4 + 4 + (j - 16) = n + j by omega]
  · intro Q
    have g : n + 20 ≤ 300 := h
    simp (disch := first | assumption | omega | decide) only [x181_0, x181_1, x181_2, x181_3, x181_4, x181_5, x181_6, x181_7, x181_8, x181_9, x181_10, x181_11, x181_12, x181_13, x181_14, x181_15, x181_16, x181_17, x181_18, x181_19, x181_20, x181_21, x181_22, x181_23, x181_24, x181_25, ↓reduceIte, Option.toList, List.nil_append, List.cons_append, nI_add, pk_mul, n_and, n_or, n_xor, nI_leI, nI_ltI, nI_eq, n_z, uI_s, uI_n, bI_n0, bI_n1, bT, bF, if_true, if_false, not_true, not_false_eq_true, pk_div, pk_rem, Nat.reduceEqDiff, Nat.reduceLeDiff, Nat.reduceLT, Nat.reduceAdd, Nat.reduceMul, Nat.reduceSub, Nat.not_lt_zero, Nat.zero_le, reduceCtorEq, ite_self, n_rem, and_self, and_true, true_and, and_false, false_and, e, g, q1, q2, q3, q4, q5, l5, Nat.add_assoc]
theorem pr_feed {x1 x2 x3 x4 x5 : Int32} : PairI (Inv TX) sc (d + 3) 111 181 [some (.ref 0), some (.int x1), some (.int x2), some (.int x3), some (.int x4), some (.int x5)] [some (.ref 89), some (.int x1), some (.int x2), some (.int x3), some (.int x4), some (.int x5)] := by
  intro I J T hI
  obtain ⟨A, B, hC, hM, hW, ⟨⟨n, hn, e1, e2, e3⟩, e4, e5⟩, hX⟩ := id hI
  by_cases h : n + 20 ≤ 300
  · obtain ⟨I1, f1, l1, b1, q1⟩ := sp_feedC (sc := sc) (d := d + 2) (J := J) (T := T) (x1 := x1) (x2 := x2) (x3 := x3) (x4 := x4) (x5 := x5) h e1
    obtain ⟨I2, f2, l2, b2, q2⟩ := sp_feedM (sc := sc) (d := d + 2) (J := J) (T := T) (x1 := x1) (x2 := x2) (x3 := x3) (x4 := x4) (x5 := x5) h ((f1 89 4 (by omega)).trans e2)
    rw [q1]
    refine ⟨_, rfl, I1, J, T, rfl, ?_⟩
    rw [q2]
    refine ⟨rfl, I2, J, T, rfl, Inv_t (J := J) (T := T) hI (fun c k hc => (f2 c k (by omega)).trans (f1 c k (by omega))) ((f2 _ _ (by omega)).trans (f1 _ _ (by omega))) ?_⟩
    refine ⟨⟨n + 20, h, (f2 _ _ (by omega)).trans l1, l2, ?_⟩, ?_, ?_⟩
    · intro k hk
      by_cases hk2 : k < n
      · rw [f2 _ _ (by omega), f1 _ _ (by omega), f2 _ _ (by omega), f1 _ _ (by omega)]
        exact e3 k hk2
      · obtain ⟨v, hv, ev⟩ := fd5_v x1 x2 x3 x4 x5 (k - n)
        refine ⟨v, hv, ?_, ?_⟩
        · rw [f2 _ _ (by omega), show k = n + (k - n) by omega, b1 _ (by omega)]
          exact ev
        · rw [show k = n + (k - n) by omega, b2 _ (by omega)]
          exact ev
    · rw [f2 _ _ (by omega), f1 _ _ (by omega), f2 _ _ (by omega), f1 _ _ (by omega)]
      exact e4
    · rw [f2 _ _ (by omega), f1 _ _ (by omega), f2 _ _ (by omega), f1 _ _ (by omega)]
      exact e5
  · simp (disch := first | assumption | omega | decide) only [x111_0, x111_1, x111_2, x111_3, x111_4, x111_5, x111_6, x111_7, x111_8, x111_9, x111_10, x111_11, x111_12, x111_13, x111_14, x111_15, x111_16, x111_17, x111_18, x111_19, x111_20, x111_21, x111_22, x111_23, x111_24, x111_25, x111_26, x111_27, x111_28, x111_29, x111_30, x111_31, x111_32, ↓reduceIte, Option.toList, List.nil_append, List.cons_append, nI_add, pk_mul, n_and, n_or, n_xor, nI_leI, nI_ltI, nI_eq, n_z, uI_s, uI_n, bI_n0, bI_n1, bT, bF, if_true, if_false, not_true, not_false_eq_true, pk_div, pk_rem, Nat.reduceEqDiff, Nat.reduceLeDiff, Nat.reduceLT, Nat.reduceAdd, Nat.reduceMul, Nat.reduceSub, Nat.not_lt_zero, Nat.zero_le, reduceCtorEq, ite_self, n_rem, and_self, and_true, true_and, and_false, false_and, e1, h]
    refine ⟨_, rfl, I, J, T, rfl, ?_⟩
    simp (disch := first | assumption | omega | decide) only [x181_0, x181_1, x181_2, x181_3, x181_4, x181_5, x181_6, x181_7, x181_8, x181_9, x181_10, x181_11, x181_12, x181_13, x181_14, x181_15, x181_16, x181_17, x181_18, x181_19, x181_20, x181_21, x181_22, x181_23, x181_24, x181_25, ↓reduceIte, Option.toList, List.nil_append, List.cons_append, nI_add, pk_mul, n_and, n_or, n_xor, nI_leI, nI_ltI, nI_eq, n_z, uI_s, uI_n, bI_n0, bI_n1, bT, bF, if_true, if_false, not_true, not_false_eq_true, pk_div, pk_rem, Nat.reduceEqDiff, Nat.reduceLeDiff, Nat.reduceLT, Nat.reduceAdd, Nat.reduceMul, Nat.reduceSub, Nat.not_lt_zero, Nat.zero_le, reduceCtorEq, ite_self, n_rem, and_self, and_true, true_and, and_false, false_and, e2, h]
    exact ⟨I, J, T, rfl, hI⟩
theorem pr_end {x : Int32} : PairI (Inv TX) sc (d + 3) 112 182 [some (.ref 0), some (.int x)] [some (.ref 89), some (.int x)] := by
  intro I J T hI
  obtain ⟨A, B, hC, hM, hW, ⟨⟨n, hn, e1, e2, e3⟩, e4, e5⟩, hX⟩ := id hI
  by_cases hx : inR x (n + 1)
  · obtain ⟨k, hk, rfl⟩ := hx
    simp (disch := first | assumption | omega | decide) only [x112_0, x112_1, x112_2, x112_3, x112_4, x112_5, x112_6, x112_7, x112_8, x112_9, x112_10, x112_11, x112_12, x112_13, x112_14, ↓reduceIte, Option.toList, List.nil_append, List.cons_append, nI_add, pk_mul, n_and, n_or, n_xor, nI_leI, nI_ltI, nI_eq, n_z, uI_s, uI_n, bI_n0, bI_n1, bT, bF, if_true, if_false, not_true, not_false_eq_true, pk_div, pk_rem, Nat.reduceEqDiff, Nat.reduceLeDiff, Nat.reduceLT, Nat.reduceAdd, Nat.reduceMul, Nat.reduceSub, Nat.not_lt_zero, Nat.zero_le, reduceCtorEq, ite_self, n_rem, and_self, and_true, true_and, and_false, false_and, e1, sp_isWithin, ↓in_t]
    refine ⟨_, rfl, _, J, T, rfl, ?_⟩
    simp (disch := first | assumption | omega | decide) only [x182_0, x182_1, x182_2, x182_3, x182_4, x182_5, x182_6, x182_7, x182_8, x182_9, x182_10, x182_11, x182_12, ↓reduceIte, Option.toList, List.nil_append, List.cons_append, nI_add, pk_mul, n_and, n_or, n_xor, nI_leI, nI_ltI, nI_eq, n_z, uI_s, uI_n, bI_n0, bI_n1, bT, bF, if_true, if_false, not_true, not_false_eq_true, pk_div, pk_rem, Nat.reduceEqDiff, Nat.reduceLeDiff, Nat.reduceLT, Nat.reduceAdd, Nat.reduceMul, Nat.reduceSub, Nat.not_lt_zero, Nat.zero_le, reduceCtorEq, ite_self, n_rem, and_self, and_true, true_and, and_false, false_and, e2, sp_isIn, ↓in_t]
    refine ⟨_, J, T, rfl, Inv_t (J := J) (T := T) hI (fun c k hc => by simp (disch := omega) only [uI_n]) (by simp (disch := omega) only [uI_n]) ⟨⟨k, by omega, by simp (disch := omega) only [uI_n, uI_s], by simp (disch := omega) only [uI_s], ?_⟩, ?_, ?_⟩⟩
    · intro j hj
      simp (disch := omega) only [uI_n]
      exact e3 j (by omega)
    · simp (disch := omega) only [uI_n]
      exact e4
    · simp (disch := omega) only [uI_n]
      exact e5
  · simp (disch := first | assumption | omega | decide) only [x112_0, x112_1, x112_2, x112_3, x112_4, x112_5, x112_6, x112_7, x112_8, x112_9, x112_10, x112_11, x112_12, x112_13, x112_14, ↓reduceIte, Option.toList, List.nil_append, List.cons_append, nI_add, pk_mul, n_and, n_or, n_xor, nI_leI, nI_ltI, nI_eq, n_z, uI_s, uI_n, bI_n0, bI_n1, bT, bF, if_true, if_false, not_true, not_false_eq_true, pk_div, pk_rem, Nat.reduceEqDiff, Nat.reduceLeDiff, Nat.reduceLT, Nat.reduceAdd, Nat.reduceMul, Nat.reduceSub, Nat.not_lt_zero, Nat.zero_le, reduceCtorEq, ite_self, n_rem, and_self, and_true, true_and, and_false, false_and, e1, sp_isWithin, ↓in_f hx]
    refine ⟨_, rfl, I, J, T, rfl, ?_⟩
    simp (disch := first | assumption | omega | decide) only [x182_0, x182_1, x182_2, x182_3, x182_4, x182_5, x182_6, x182_7, x182_8, x182_9, x182_10, x182_11, x182_12, ↓reduceIte, Option.toList, List.nil_append, List.cons_append, nI_add, pk_mul, n_and, n_or, n_xor, nI_leI, nI_ltI, nI_eq, n_z, uI_s, uI_n, bI_n0, bI_n1, bT, bF, if_true, if_false, not_true, not_false_eq_true, pk_div, pk_rem, Nat.reduceEqDiff, Nat.reduceLeDiff, Nat.reduceLT, Nat.reduceAdd, Nat.reduceMul, Nat.reduceSub, Nat.not_lt_zero, Nat.zero_le, reduceCtorEq, ite_self, n_rem, and_self, and_true, true_and, and_false, false_and, e2, sp_isIn, ↓in_f hx]
    exact ⟨I, J, T, rfl, hI⟩
theorem pr_fault {x : Int32} : PairI (Inv TX) sc (d + 3) 114 220 [some (.ref 0), some (.int x)] [some (.ref 89), some (.int x)] := by
  intro I J T hI
  obtain ⟨A, B, hC, hM, hW, ⟨⟨n, hn, e1, e2, e3⟩, e4, e5⟩, hX⟩ := id hI
  by_cases h0 : x = nI 0
  · simp (disch := first | assumption | omega | decide) only [x114_0, x114_1, x114_2, x114_3, x114_4, x114_5, x114_6, x114_7, x114_8, x114_9, x114_10, x114_11, x114_12, x114_13, x114_14, ↓reduceIte, Option.toList, List.nil_append, List.cons_append, nI_add, pk_mul, n_and, n_or, n_xor, nI_leI, nI_ltI, nI_eq, n_z, uI_s, uI_n, bI_n0, bI_n1, bT, bF, if_true, if_false, not_true, not_false_eq_true, pk_div, pk_rem, Nat.reduceEqDiff, Nat.reduceLeDiff, Nat.reduceLT, Nat.reduceAdd, Nat.reduceMul, Nat.reduceSub, Nat.not_lt_zero, Nat.zero_le, reduceCtorEq, ite_self, n_rem, and_self, and_true, true_and, and_false, false_and, h0]
    refine ⟨_, rfl, I, J, T, rfl, ?_⟩
    simp (disch := first | assumption | omega | decide) only [x220_0, x220_1, x220_2, x220_3, x220_4, x220_5, x220_6, x220_7, x220_8, x220_9, x220_10, x220_11, x220_12, ↓reduceIte, Option.toList, List.nil_append, List.cons_append, nI_add, pk_mul, n_and, n_or, n_xor, nI_leI, nI_ltI, nI_eq, n_z, uI_s, uI_n, bI_n0, bI_n1, bT, bF, if_true, if_false, not_true, not_false_eq_true, pk_div, pk_rem, Nat.reduceEqDiff, Nat.reduceLeDiff, Nat.reduceLT, Nat.reduceAdd, Nat.reduceMul, Nat.reduceSub, Nat.not_lt_zero, Nat.zero_le, reduceCtorEq, ite_self, n_rem, and_self, and_true, true_and, and_false, false_and]
    exact ⟨by rw [e4], I, J, T, rfl, hI⟩
  · by_cases h1 : x = nI 1
    · simp (disch := first | assumption | omega | decide) only [x114_0, x114_1, x114_2, x114_3, x114_4, x114_5, x114_6, x114_7, x114_8, x114_9, x114_10, x114_11, x114_12, x114_13, x114_14, ↓reduceIte, Option.toList, List.nil_append, List.cons_append, nI_add, pk_mul, n_and, n_or, n_xor, nI_leI, nI_ltI, nI_eq, n_z, uI_s, uI_n, bI_n0, bI_n1, bT, bF, if_true, if_false, not_true, not_false_eq_true, pk_div, pk_rem, Nat.reduceEqDiff, Nat.reduceLeDiff, Nat.reduceLT, Nat.reduceAdd, Nat.reduceMul, Nat.reduceSub, Nat.not_lt_zero, Nat.zero_le, reduceCtorEq, ite_self, n_rem, and_self, and_true, true_and, and_false, false_and, h1]
      refine ⟨_, rfl, I, J, T, rfl, ?_⟩
      simp (disch := first | assumption | omega | decide) only [x220_0, x220_1, x220_2, x220_3, x220_4, x220_5, x220_6, x220_7, x220_8, x220_9, x220_10, x220_11, x220_12, ↓reduceIte, Option.toList, List.nil_append, List.cons_append, nI_add, pk_mul, n_and, n_or, n_xor, nI_leI, nI_ltI, nI_eq, n_z, uI_s, uI_n, bI_n0, bI_n1, bT, bF, if_true, if_false, not_true, not_false_eq_true, pk_div, pk_rem, Nat.reduceEqDiff, Nat.reduceLeDiff, Nat.reduceLT, Nat.reduceAdd, Nat.reduceMul, Nat.reduceSub, Nat.not_lt_zero, Nat.zero_le, reduceCtorEq, ite_self, n_rem, and_self, and_true, true_and, and_false, false_and]
      exact ⟨by rw [e5], I, J, T, rfl, hI⟩
    · simp (disch := first | assumption | omega | decide) only [x114_0, x114_1, x114_2, x114_3, x114_4, x114_5, x114_6, x114_7, x114_8, x114_9, x114_10, x114_11, x114_12, x114_13, x114_14, ↓reduceIte, Option.toList, List.nil_append, List.cons_append, nI_add, pk_mul, n_and, n_or, n_xor, nI_leI, nI_ltI, nI_eq, n_z, uI_s, uI_n, bI_n0, bI_n1, bT, bF, if_true, if_false, not_true, not_false_eq_true, pk_div, pk_rem, Nat.reduceEqDiff, Nat.reduceLeDiff, Nat.reduceLT, Nat.reduceAdd, Nat.reduceMul, Nat.reduceSub, Nat.not_lt_zero, Nat.zero_le, reduceCtorEq, ite_self, n_rem, and_self, and_true, true_and, and_false, false_and, h0, h1]
      refine ⟨_, rfl, I, J, T, rfl, ?_⟩
      simp (disch := first | assumption | omega | decide) only [x220_0, x220_1, x220_2, x220_3, x220_4, x220_5, x220_6, x220_7, x220_8, x220_9, x220_10, x220_11, x220_12, ↓reduceIte, Option.toList, List.nil_append, List.cons_append, nI_add, pk_mul, n_and, n_or, n_xor, nI_leI, nI_ltI, nI_eq, n_z, uI_s, uI_n, bI_n0, bI_n1, bT, bF, if_true, if_false, not_true, not_false_eq_true, pk_div, pk_rem, Nat.reduceEqDiff, Nat.reduceLeDiff, Nat.reduceLT, Nat.reduceAdd, Nat.reduceMul, Nat.reduceSub, Nat.not_lt_zero, Nat.zero_le, reduceCtorEq, ite_self, n_rem, and_self, and_true, true_and, and_false, false_and, h0, h1]
      exact ⟨I, J, T, rfl, hI⟩
theorem pr_about {x : Int32} : PairI (Inv TX) sc (d + 3) 162 305 [some (.ref 0), some (.int x)] [some (.ref 89), some (.int x)] := by
  intro I J T hI
  obtain ⟨A, B, ⟨t1, t2, ⟨f, hf, s1, s2, -⟩, -, ⟨n1, n2, n3, -⟩, -⟩, hM, hW, ⟨⟨n, hn, e1, e2, e3⟩, e4, e5⟩, hX⟩ := id hI
  have m : ∀ k, k < 1799 → I 90 k = nI (A k) := hM.1
  by_cases hx : inR x 9
  · obtain ⟨k, hk, rfl⟩ := hx
    have hk' : k = 0 ∨ k = 1 ∨ k = 2 ∨ k = 3 ∨ k = 4 ∨ k = 5 ∨ k = 6 ∨ k = 7 ∨ k = 8 := by omega
    rcases hk' with rfl | rfl | rfl | rfl | rfl | rfl | rfl | rfl | rfl
    · simp (disch := first | assumption | omega | decide) only [x162_0, x162_1_0, x162_1_1, x162_1_2, x162_1_3, x162_1_4, x162_1_5, x162_1_6, x162_1_7, x162_1_8, x162_1_d, x162_2, x162_3, x162_4, x162_5, x162_6, x162_7, x162_8, x162_9, x162_10, x162_11, x162_12, x162_13, x162_14, x162_15, x162_16, x162_17, x162_18, x162_19, x162_20, x162_21, x162_22, x162_23, x162_24, x162_25, x162_26, x162_27, x162_28, x162_29, x162_30, x162_31, x162_32, x162_33, x162_34, x162_35, x162_36, x162_37, x162_38, x162_39, ↓reduceIte, Option.toList, List.nil_append, List.cons_append, nI_add, pk_mul, n_and, n_or, n_xor, nI_leI, nI_ltI, nI_eq, n_z, uI_s, uI_n, bI_n0, bI_n1, bT, bF, if_true, if_false, not_true, not_false_eq_true, pk_div, pk_rem, Nat.reduceEqDiff, Nat.reduceLeDiff, Nat.reduceLT, Nat.reduceAdd, Nat.reduceMul, Nat.reduceSub, Nat.not_lt_zero, Nat.zero_le, reduceCtorEq, ite_self, n_rem, and_self, and_true, true_and, and_false, false_and, tw_roads t1]
      refine ⟨_, rfl, I, J, T, rfl, ?_⟩
      simp (disch := first | assumption | omega | decide) only [x305_0, x305_1, x305_2, x305_3, x305_4, x305_5, x305_6, x305_7, x305_8, x305_9, x305_10, x305_11, x305_12, x305_13, x305_14, x305_15, x305_16, x305_17, ↓reduceIte, Option.toList, List.nil_append, List.cons_append, nI_add, pk_mul, n_and, n_or, n_xor, nI_leI, nI_ltI, nI_eq, n_z, uI_s, uI_n, bI_n0, bI_n1, bT, bF, if_true, if_false, not_true, not_false_eq_true, pk_div, pk_rem, Nat.reduceEqDiff, Nat.reduceLeDiff, Nat.reduceLT, Nat.reduceAdd, Nat.reduceMul, Nat.reduceSub, Nat.not_lt_zero, Nat.zero_le, reduceCtorEq, ite_self, n_rem, and_self, and_true, true_and, and_false, false_and, sp_isIn, ↓in_t, m]
      exact ⟨I, J, T, rfl, hI⟩
    · simp (disch := first | assumption | omega | decide) only [x162_0, x162_1_0, x162_1_1, x162_1_2, x162_1_3, x162_1_4, x162_1_5, x162_1_6, x162_1_7, x162_1_8, x162_1_d, x162_2, x162_3, x162_4, x162_5, x162_6, x162_7, x162_8, x162_9, x162_10, x162_11, x162_12, x162_13, x162_14, x162_15, x162_16, x162_17, x162_18, x162_19, x162_20, x162_21, x162_22, x162_23, x162_24, x162_25, x162_26, x162_27, x162_28, x162_29, x162_30, x162_31, x162_32, x162_33, x162_34, x162_35, x162_36, x162_37, x162_38, x162_39, ↓reduceIte, Option.toList, List.nil_append, List.cons_append, nI_add, pk_mul, n_and, n_or, n_xor, nI_leI, nI_ltI, nI_eq, n_z, uI_s, uI_n, bI_n0, bI_n1, bT, bF, if_true, if_false, not_true, not_false_eq_true, pk_div, pk_rem, Nat.reduceEqDiff, Nat.reduceLeDiff, Nat.reduceLT, Nat.reduceAdd, Nat.reduceMul, Nat.reduceSub, Nat.not_lt_zero, Nat.zero_le, reduceCtorEq, ite_self, n_rem, and_self, and_true, true_and, and_false, false_and, tw_rumours t1]
      refine ⟨_, rfl, I, J, T, rfl, ?_⟩
      simp (disch := first | assumption | omega | decide) only [x305_0, x305_1, x305_2, x305_3, x305_4, x305_5, x305_6, x305_7, x305_8, x305_9, x305_10, x305_11, x305_12, x305_13, x305_14, x305_15, x305_16, x305_17, ↓reduceIte, Option.toList, List.nil_append, List.cons_append, nI_add, pk_mul, n_and, n_or, n_xor, nI_leI, nI_ltI, nI_eq, n_z, uI_s, uI_n, bI_n0, bI_n1, bT, bF, if_true, if_false, not_true, not_false_eq_true, pk_div, pk_rem, Nat.reduceEqDiff, Nat.reduceLeDiff, Nat.reduceLT, Nat.reduceAdd, Nat.reduceMul, Nat.reduceSub, Nat.not_lt_zero, Nat.zero_le, reduceCtorEq, ite_self, n_rem, and_self, and_true, true_and, and_false, false_and, sp_isIn, ↓in_t, m]
      exact ⟨I, J, T, rfl, hI⟩
    · simp (disch := first | assumption | omega | decide) only [x162_0, x162_1_0, x162_1_1, x162_1_2, x162_1_3, x162_1_4, x162_1_5, x162_1_6, x162_1_7, x162_1_8, x162_1_d, x162_2, x162_3, x162_4, x162_5, x162_6, x162_7, x162_8, x162_9, x162_10, x162_11, x162_12, x162_13, x162_14, x162_15, x162_16, x162_17, x162_18, x162_19, x162_20, x162_21, x162_22, x162_23, x162_24, x162_25, x162_26, x162_27, x162_28, x162_29, x162_30, x162_31, x162_32, x162_33, x162_34, x162_35, x162_36, x162_37, x162_38, x162_39, ↓reduceIte, Option.toList, List.nil_append, List.cons_append, nI_add, pk_mul, n_and, n_or, n_xor, nI_leI, nI_ltI, nI_eq, n_z, uI_s, uI_n, bI_n0, bI_n1, bT, bF, if_true, if_false, not_true, not_false_eq_true, pk_div, pk_rem, Nat.reduceEqDiff, Nat.reduceLeDiff, Nat.reduceLT, Nat.reduceAdd, Nat.reduceMul, Nat.reduceSub, Nat.not_lt_zero, Nat.zero_le, reduceCtorEq, ite_self, n_rem, and_self, and_true, true_and, and_false, false_and, tw_texts t1]
      refine ⟨_, rfl, I, J, T, rfl, ?_⟩
      simp (disch := first | assumption | omega | decide) only [x305_0, x305_1, x305_2, x305_3, x305_4, x305_5, x305_6, x305_7, x305_8, x305_9, x305_10, x305_11, x305_12, x305_13, x305_14, x305_15, x305_16, x305_17, ↓reduceIte, Option.toList, List.nil_append, List.cons_append, nI_add, pk_mul, n_and, n_or, n_xor, nI_leI, nI_ltI, nI_eq, n_z, uI_s, uI_n, bI_n0, bI_n1, bT, bF, if_true, if_false, not_true, not_false_eq_true, pk_div, pk_rem, Nat.reduceEqDiff, Nat.reduceLeDiff, Nat.reduceLT, Nat.reduceAdd, Nat.reduceMul, Nat.reduceSub, Nat.not_lt_zero, Nat.zero_le, reduceCtorEq, ite_self, n_rem, and_self, and_true, true_and, and_false, false_and, sp_isIn, ↓in_t, m]
      exact ⟨I, J, T, rfl, hI⟩
    · simp (disch := first | assumption | omega | decide) only [x162_0, x162_1_0, x162_1_1, x162_1_2, x162_1_3, x162_1_4, x162_1_5, x162_1_6, x162_1_7, x162_1_8, x162_1_d, x162_2, x162_3, x162_4, x162_5, x162_6, x162_7, x162_8, x162_9, x162_10, x162_11, x162_12, x162_13, x162_14, x162_15, x162_16, x162_17, x162_18, x162_19, x162_20, x162_21, x162_22, x162_23, x162_24, x162_25, x162_26, x162_27, x162_28, x162_29, x162_30, x162_31, x162_32, x162_33, x162_34, x162_35, x162_36, x162_37, x162_38, x162_39, ↓reduceIte, Option.toList, List.nil_append, List.cons_append, nI_add, pk_mul, n_and, n_or, n_xor, nI_leI, nI_ltI, nI_eq, n_z, uI_s, uI_n, bI_n0, bI_n1, bT, bF, if_true, if_false, not_true, not_false_eq_true, pk_div, pk_rem, Nat.reduceEqDiff, Nat.reduceLeDiff, Nat.reduceLT, Nat.reduceAdd, Nat.reduceMul, Nat.reduceSub, Nat.not_lt_zero, Nat.zero_le, reduceCtorEq, ite_self, n_rem, and_self, and_true, true_and, and_false, false_and, tw_ruling t1]
      refine ⟨_, rfl, I, J, T, rfl, ?_⟩
      simp (disch := first | assumption | omega | decide) only [x305_0, x305_1, x305_2, x305_3, x305_4, x305_5, x305_6, x305_7, x305_8, x305_9, x305_10, x305_11, x305_12, x305_13, x305_14, x305_15, x305_16, x305_17, ↓reduceIte, Option.toList, List.nil_append, List.cons_append, nI_add, pk_mul, n_and, n_or, n_xor, nI_leI, nI_ltI, nI_eq, n_z, uI_s, uI_n, bI_n0, bI_n1, bT, bF, if_true, if_false, not_true, not_false_eq_true, pk_div, pk_rem, Nat.reduceEqDiff, Nat.reduceLeDiff, Nat.reduceLT, Nat.reduceAdd, Nat.reduceMul, Nat.reduceSub, Nat.not_lt_zero, Nat.zero_le, reduceCtorEq, ite_self, n_rem, and_self, and_true, true_and, and_false, false_and, sp_isIn, ↓in_t, m]
      exact ⟨I, J, T, rfl, hI⟩
    · simp (disch := first | assumption | omega | decide) only [x162_0, x162_1_0, x162_1_1, x162_1_2, x162_1_3, x162_1_4, x162_1_5, x162_1_6, x162_1_7, x162_1_8, x162_1_d, x162_2, x162_3, x162_4, x162_5, x162_6, x162_7, x162_8, x162_9, x162_10, x162_11, x162_12, x162_13, x162_14, x162_15, x162_16, x162_17, x162_18, x162_19, x162_20, x162_21, x162_22, x162_23, x162_24, x162_25, x162_26, x162_27, x162_28, x162_29, x162_30, x162_31, x162_32, x162_33, x162_34, x162_35, x162_36, x162_37, x162_38, x162_39, ↓reduceIte, Option.toList, List.nil_append, List.cons_append, nI_add, pk_mul, n_and, n_or, n_xor, nI_leI, nI_ltI, nI_eq, n_z, uI_s, uI_n, bI_n0, bI_n1, bT, bF, if_true, if_false, not_true, not_false_eq_true, pk_div, pk_rem, Nat.reduceEqDiff, Nat.reduceLeDiff, Nat.reduceLT, Nat.reduceAdd, Nat.reduceMul, Nat.reduceSub, Nat.not_lt_zero, Nat.zero_le, reduceCtorEq, ite_self, n_rem, and_self, and_true, true_and, and_false, false_and, s2]
      refine ⟨_, rfl, I, J, T, rfl, ?_⟩
      simp (disch := first | assumption | omega | decide) only [x305_0, x305_1, x305_2, x305_3, x305_4, x305_5, x305_6, x305_7, x305_8, x305_9, x305_10, x305_11, x305_12, x305_13, x305_14, x305_15, x305_16, x305_17, ↓reduceIte, Option.toList, List.nil_append, List.cons_append, nI_add, pk_mul, n_and, n_or, n_xor, nI_leI, nI_ltI, nI_eq, n_z, uI_s, uI_n, bI_n0, bI_n1, bT, bF, if_true, if_false, not_true, not_false_eq_true, pk_div, pk_rem, Nat.reduceEqDiff, Nat.reduceLeDiff, Nat.reduceLT, Nat.reduceAdd, Nat.reduceMul, Nat.reduceSub, Nat.not_lt_zero, Nat.zero_le, reduceCtorEq, ite_self, n_rem, and_self, and_true, true_and, and_false, false_and, sp_isIn, ↓in_t, m]
      exact ⟨I, J, T, rfl, hI⟩
    · simp (disch := first | assumption | omega | decide) only [x162_0, x162_1_0, x162_1_1, x162_1_2, x162_1_3, x162_1_4, x162_1_5, x162_1_6, x162_1_7, x162_1_8, x162_1_d, x162_2, x162_3, x162_4, x162_5, x162_6, x162_7, x162_8, x162_9, x162_10, x162_11, x162_12, x162_13, x162_14, x162_15, x162_16, x162_17, x162_18, x162_19, x162_20, x162_21, x162_22, x162_23, x162_24, x162_25, x162_26, x162_27, x162_28, x162_29, x162_30, x162_31, x162_32, x162_33, x162_34, x162_35, x162_36, x162_37, x162_38, x162_39, ↓reduceIte, Option.toList, List.nil_append, List.cons_append, nI_add, pk_mul, n_and, n_or, n_xor, nI_leI, nI_ltI, nI_eq, n_z, uI_s, uI_n, bI_n0, bI_n1, bT, bF, if_true, if_false, not_true, not_false_eq_true, pk_div, pk_rem, Nat.reduceEqDiff, Nat.reduceLeDiff, Nat.reduceLT, Nat.reduceAdd, Nat.reduceMul, Nat.reduceSub, Nat.not_lt_zero, Nat.zero_le, reduceCtorEq, ite_self, n_rem, and_self, and_true, true_and, and_false, false_and, n1]
      refine ⟨_, rfl, I, J, T, rfl, ?_⟩
      simp (disch := first | assumption | omega | decide) only [x305_0, x305_1, x305_2, x305_3, x305_4, x305_5, x305_6, x305_7, x305_8, x305_9, x305_10, x305_11, x305_12, x305_13, x305_14, x305_15, x305_16, x305_17, ↓reduceIte, Option.toList, List.nil_append, List.cons_append, nI_add, pk_mul, n_and, n_or, n_xor, nI_leI, nI_ltI, nI_eq, n_z, uI_s, uI_n, bI_n0, bI_n1, bT, bF, if_true, if_false, not_true, not_false_eq_true, pk_div, pk_rem, Nat.reduceEqDiff, Nat.reduceLeDiff, Nat.reduceLT, Nat.reduceAdd, Nat.reduceMul, Nat.reduceSub, Nat.not_lt_zero, Nat.zero_le, reduceCtorEq, ite_self, n_rem, and_self, and_true, true_and, and_false, false_and, sp_isIn, ↓in_t, m]
      exact ⟨I, J, T, rfl, hI⟩
    · simp (disch := first | assumption | omega | decide) only [x162_0, x162_1_0, x162_1_1, x162_1_2, x162_1_3, x162_1_4, x162_1_5, x162_1_6, x162_1_7, x162_1_8, x162_1_d, x162_2, x162_3, x162_4, x162_5, x162_6, x162_7, x162_8, x162_9, x162_10, x162_11, x162_12, x162_13, x162_14, x162_15, x162_16, x162_17, x162_18, x162_19, x162_20, x162_21, x162_22, x162_23, x162_24, x162_25, x162_26, x162_27, x162_28, x162_29, x162_30, x162_31, x162_32, x162_33, x162_34, x162_35, x162_36, x162_37, x162_38, x162_39, ↓reduceIte, Option.toList, List.nil_append, List.cons_append, nI_add, pk_mul, n_and, n_or, n_xor, nI_leI, nI_ltI, nI_eq, n_z, uI_s, uI_n, bI_n0, bI_n1, bT, bF, if_true, if_false, not_true, not_false_eq_true, pk_div, pk_rem, Nat.reduceEqDiff, Nat.reduceLeDiff, Nat.reduceLT, Nat.reduceAdd, Nat.reduceMul, Nat.reduceSub, Nat.not_lt_zero, Nat.zero_le, reduceCtorEq, ite_self, n_rem, and_self, and_true, true_and, and_false, false_and, n2]
      refine ⟨_, rfl, I, J, T, rfl, ?_⟩
      simp (disch := first | assumption | omega | decide) only [x305_0, x305_1, x305_2, x305_3, x305_4, x305_5, x305_6, x305_7, x305_8, x305_9, x305_10, x305_11, x305_12, x305_13, x305_14, x305_15, x305_16, x305_17, ↓reduceIte, Option.toList, List.nil_append, List.cons_append, nI_add, pk_mul, n_and, n_or, n_xor, nI_leI, nI_ltI, nI_eq, n_z, uI_s, uI_n, bI_n0, bI_n1, bT, bF, if_true, if_false, not_true, not_false_eq_true, pk_div, pk_rem, Nat.reduceEqDiff, Nat.reduceLeDiff, Nat.reduceLT, Nat.reduceAdd, Nat.reduceMul, Nat.reduceSub, Nat.not_lt_zero, Nat.zero_le, reduceCtorEq, ite_self, n_rem, and_self, and_true, true_and, and_false, false_and, sp_isIn, ↓in_t, m]
      exact ⟨I, J, T, rfl, hI⟩
    · simp (disch := first | assumption | omega | decide) only [x162_0, x162_1_0, x162_1_1, x162_1_2, x162_1_3, x162_1_4, x162_1_5, x162_1_6, x162_1_7, x162_1_8, x162_1_d, x162_2, x162_3, x162_4, x162_5, x162_6, x162_7, x162_8, x162_9, x162_10, x162_11, x162_12, x162_13, x162_14, x162_15, x162_16, x162_17, x162_18, x162_19, x162_20, x162_21, x162_22, x162_23, x162_24, x162_25, x162_26, x162_27, x162_28, x162_29, x162_30, x162_31, x162_32, x162_33, x162_34, x162_35, x162_36, x162_37, x162_38, x162_39, ↓reduceIte, Option.toList, List.nil_append, List.cons_append, nI_add, pk_mul, n_and, n_or, n_xor, nI_leI, nI_ltI, nI_eq, n_z, uI_s, uI_n, bI_n0, bI_n1, bT, bF, if_true, if_false, not_true, not_false_eq_true, pk_div, pk_rem, Nat.reduceEqDiff, Nat.reduceLeDiff, Nat.reduceLT, Nat.reduceAdd, Nat.reduceMul, Nat.reduceSub, Nat.not_lt_zero, Nat.zero_le, reduceCtorEq, ite_self, n_rem, and_self, and_true, true_and, and_false, false_and, n3]
      refine ⟨_, rfl, I, J, T, rfl, ?_⟩
      simp (disch := first | assumption | omega | decide) only [x305_0, x305_1, x305_2, x305_3, x305_4, x305_5, x305_6, x305_7, x305_8, x305_9, x305_10, x305_11, x305_12, x305_13, x305_14, x305_15, x305_16, x305_17, ↓reduceIte, Option.toList, List.nil_append, List.cons_append, nI_add, pk_mul, n_and, n_or, n_xor, nI_leI, nI_ltI, nI_eq, n_z, uI_s, uI_n, bI_n0, bI_n1, bT, bF, if_true, if_false, not_true, not_false_eq_true, pk_div, pk_rem, Nat.reduceEqDiff, Nat.reduceLeDiff, Nat.reduceLT, Nat.reduceAdd, Nat.reduceMul, Nat.reduceSub, Nat.not_lt_zero, Nat.zero_le, reduceCtorEq, ite_self, n_rem, and_self, and_true, true_and, and_false, false_and, sp_isIn, ↓in_t, m]
      exact ⟨I, J, T, rfl, hI⟩
    · simp (disch := first | assumption | omega | decide) only [x162_0, x162_1_0, x162_1_1, x162_1_2, x162_1_3, x162_1_4, x162_1_5, x162_1_6, x162_1_7, x162_1_8, x162_1_d, x162_2, x162_3, x162_4, x162_5, x162_6, x162_7, x162_8, x162_9, x162_10, x162_11, x162_12, x162_13, x162_14, x162_15, x162_16, x162_17, x162_18, x162_19, x162_20, x162_21, x162_22, x162_23, x162_24, x162_25, x162_26, x162_27, x162_28, x162_29, x162_30, x162_31, x162_32, x162_33, x162_34, x162_35, x162_36, x162_37, x162_38, x162_39, ↓reduceIte, Option.toList, List.nil_append, List.cons_append, nI_add, pk_mul, n_and, n_or, n_xor, nI_leI, nI_ltI, nI_eq, n_z, uI_s, uI_n, bI_n0, bI_n1, bT, bF, if_true, if_false, not_true, not_false_eq_true, pk_div, pk_rem, Nat.reduceEqDiff, Nat.reduceLeDiff, Nat.reduceLT, Nat.reduceAdd, Nat.reduceMul, Nat.reduceSub, Nat.not_lt_zero, Nat.zero_le, reduceCtorEq, ite_self, n_rem, and_self, and_true, true_and, and_false, false_and, e1]
      refine ⟨_, rfl, I, J, T, rfl, ?_⟩
      simp (disch := first | assumption | omega | decide) only [x305_0, x305_1, x305_2, x305_3, x305_4, x305_5, x305_6, x305_7, x305_8, x305_9, x305_10, x305_11, x305_12, x305_13, x305_14, x305_15, x305_16, x305_17, ↓reduceIte, Option.toList, List.nil_append, List.cons_append, nI_add, pk_mul, n_and, n_or, n_xor, nI_leI, nI_ltI, nI_eq, n_z, uI_s, uI_n, bI_n0, bI_n1, bT, bF, if_true, if_false, not_true, not_false_eq_true, pk_div, pk_rem, Nat.reduceEqDiff, Nat.reduceLeDiff, Nat.reduceLT, Nat.reduceAdd, Nat.reduceMul, Nat.reduceSub, Nat.not_lt_zero, Nat.zero_le, reduceCtorEq, ite_self, n_rem, and_self, and_true, true_and, and_false, false_and, sp_isIn, ↓in_h, e2]
      exact ⟨I, J, T, rfl, hI⟩
  · simp (disch := first | assumption | omega | decide) only [x162_0, x162_1_d (sw_d hx (by decide) rfl), x162_2, x162_3, x162_4, x162_5, x162_6, x162_7, x162_8, x162_9, x162_10, x162_11, x162_12, x162_13, x162_14, x162_15, x162_16, x162_17, x162_18, x162_19, x162_20, x162_21, x162_22, x162_23, x162_24, x162_25, x162_26, x162_27, x162_28, x162_29, x162_30, x162_31, x162_32, x162_33, x162_34, x162_35, x162_36, x162_37, x162_38, x162_39, ↓reduceIte, Option.toList, List.nil_append, List.cons_append, nI_add, pk_mul, n_and, n_or, n_xor, nI_leI, nI_ltI, nI_eq, n_z, uI_s, uI_n, bI_n0, bI_n1, bT, bF, if_true, if_false, not_true, not_false_eq_true, pk_div, pk_rem, Nat.reduceEqDiff, Nat.reduceLeDiff, Nat.reduceLT, Nat.reduceAdd, Nat.reduceMul, Nat.reduceSub, Nat.not_lt_zero, Nat.zero_le, reduceCtorEq, ite_self, n_rem, and_self, and_true, true_and, and_false, false_and]
    refine ⟨_, rfl, I, J, T, rfl, ?_⟩
    simp (disch := first | assumption | omega | decide) only [x305_0, x305_1, x305_2, x305_3, x305_4, x305_5, x305_6, x305_7, x305_8, x305_9, x305_10, x305_11, x305_12, x305_13, x305_14, x305_15, x305_16, x305_17, ↓reduceIte, Option.toList, List.nil_append, List.cons_append, nI_add, pk_mul, n_and, n_or, n_xor, nI_leI, nI_ltI, nI_eq, n_z, uI_s, uI_n, bI_n0, bI_n1, bT, bF, if_true, if_false, not_true, not_false_eq_true, pk_div, pk_rem, Nat.reduceEqDiff, Nat.reduceLeDiff, Nat.reduceLT, Nat.reduceAdd, Nat.reduceMul, Nat.reduceSub, Nat.not_lt_zero, Nat.zero_le, reduceCtorEq, ite_self, n_rem, and_self, and_true, true_and, and_false, false_and, sp_isIn, ↓in_f (show ¬ inR x (7 + 1) from fun ⟨k, hk, e⟩ => hx ⟨k, by omega, e⟩), inR_n hx (by decide : 8 < 9)]
    exact ⟨I, J, T, rfl, hI⟩
end Tape
