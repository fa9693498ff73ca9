/-! the class's next token -/
def TpC (I : Nat → Nat → Int32) (b : Nat → Nat) (n : Nat) : Prop := n ≤ 300 ∧ I 67 1 = nI n ∧ ∀ k, k < n → I 68 k = nI (b k) ∧ b k < 256
def TkC (I : Nat → Nat → Int32) (b : Nat → Nat) (n p : Nat) : Prop := I 67 4 = nI (tX b n p) ∧ I 67 5 = nI (tS b n p) ∧ I 67 6 = nI (tK b n p) ∧ (tK b n p = 41 → I 67 7 = nI (tV b n p))
/-- all but what the reading of a token changes -/
def FrT (I I' : Nat → Nat → Int32) : Prop := ∀ c k, c ≠ 67 ∨ k < 4 ∨ 7 < k → I' c k = I c k
theorem FrT_r {I : Nat → Nat → Int32} : FrT I I := fun _ _ _ => rfl
theorem FrT_t {I I' I'' : Nat → Nat → Int32} (h : FrT I I') (h' : FrT I' I'') : FrT I I'' := fun c k hc => (h' c k hc).trans (h c k hc)
theorem FrT_u {I : Nat → Nat → Int32} {k : Nat} {v : Int32} (hk : 4 ≤ k ∧ k ≤ 7) : FrT I (uI I 67 k v) := fun c j hc => uI_n (by omega)
theorem TpC_c {I I' : Nat → Nat → Int32} {b : Nat → Nat} {n : Nat} (h : TpC I b n) (f : FrT I I') : TpC I' b n := ⟨h.1, (f _ _ (by omega)).trans h.2.1, fun k hk => ⟨(f _ _ (by omega)).trans (h.2.2 k hk).1, (h.2.2 k hk).2⟩⟩
section Next
variable {sc : Sc} {d : Nat} {J : Nat → Nat → Int64} {T : Option Nat} {b : Nat → Nat} {n : Nat}
theorem lp_blank : ∀ (m p : Nat), n - p = m → p ≤ n → ∀ I : Nat → Nat → Int32, TpC I b n → I 67 4 = nI p → ∃ I', FrT I I' ∧ I' 67 4 = nI (wlN isB b n p) ∧ ∀ Q, Rn sc d 48 0 [some (.ref 67)] [] (K0, I, J, R1 T) Q = Rn sc d 48 26 [some (.ref 67)] [] (K0, I', J, R1 T) Q := by
  intro m
  induction m with
  | zero =>
    intro p hm hp I t h4
    have e1 := t.2.1
    have n3 := t.1
    have lp : n ≤ p := by omega
    refine ⟨I, FrT_r, by rw [wl_n (by omega)]; exact h4, fun Q => ?_⟩
    rw [x48_0]
    simp (disch := first | assumption | omega | decide) only [x48_1, x48_2, x48_3, x48_4, ↓reduceIte, Option.toList, List.nil_append, List.cons_append, nI_add, pk_mul, n_and, n_or, n_xor, nI_leI, nI_ltI, nI_eq, n_z, uI_s, uI_n, bI_n0, bI_n1, bT, bF, if_true, if_false, not_true, not_false_eq_true, pk_div, pk_rem, Nat.reduceEqDiff, Nat.reduceLeDiff, Nat.reduceLT, Nat.reduceAdd, Nat.reduceMul, Nat.reduceSub, Nat.not_lt_zero, Nat.zero_le, reduceCtorEq, ite_self, n_rem, and_self, and_true, true_and, and_false, false_and, h4, e1, lp]
  | succ m ih =>
    intro p hm hp I t h4
    have e1 := t.2.1
    have n3 := t.1
    have lp : ¬ n ≤ p := by omega
    obtain ⟨e2, b2⟩ := t.2.2 p (by omega)
    by_cases c : isB (b p) = true
    · obtain ⟨I1, f1, k1, q1⟩ := ih (p + 1) (by omega) (by omega) (uI I 67 4 (nI (p + 1))) (TpC_c t (FrT_u (by omega))) uI_s
      refine ⟨I1, FrT_t (FrT_u (by omega)) f1, by rw [wl_y (by omega) c]; exact k1, fun Q => ?_⟩
      rw [← q1 Q, x48_0]
      have c' := of_decide_eq_true c
      by_cases c1 : b p = 32
      · simp (disch := first | assumption | omega | decide) only [x48_1, x48_2, x48_3, x48_4, x48_5, x48_6, x48_7, x48_8, x48_9, x48_10, x48_11, x48_12, x48_13, x48_14, x48_15, x48_16, x48_17, x48_18, x48_19, x48_20, x48_21, x48_22, x48_23, x48_24, x48_25, ↓reduceIte, Option.toList, List.nil_append, List.cons_append, nI_add, pk_mul, n_and, n_or, n_xor, nI_leI, nI_ltI, nI_eq, n_z, uI_s, uI_n, bI_n0, bI_n1, bT, bF, if_true, if_false, not_true, not_false_eq_true, pk_div, pk_rem, Nat.reduceEqDiff, Nat.reduceLeDiff, Nat.reduceLT, Nat.reduceAdd, Nat.reduceMul, Nat.reduceSub, Nat.not_lt_zero, Nat.zero_le, reduceCtorEq, ite_self, n_rem, and_self, and_true, true_and, and_false, false_and, h4, e1, lp, e2, c1]
      · have c2 : b p = 10 := by omega
        simp (disch := first | assumption | omega | decide) only [x48_1, x48_2, x48_3, x48_4, x48_5, x48_6, x48_7, x48_8, x48_9, x48_10, x48_11, x48_12, x48_13, x48_14, x48_15, x48_16, x48_17, x48_18, x48_19, x48_20, x48_21, x48_22, x48_23, x48_24, x48_25, ↓reduceIte, Option.toList, List.nil_append, List.cons_append, nI_add, pk_mul, n_and, n_or, n_xor, nI_leI, nI_ltI, nI_eq, n_z, uI_s, uI_n, bI_n0, bI_n1, bT, bF, if_true, if_false, not_true, not_false_eq_true, pk_div, pk_rem, Nat.reduceEqDiff, Nat.reduceLeDiff, Nat.reduceLT, Nat.reduceAdd, Nat.reduceMul, Nat.reduceSub, Nat.not_lt_zero, Nat.zero_le, reduceCtorEq, ite_self, n_rem, and_self, and_true, true_and, and_false, false_and, h4, e1, lp, e2, c2]
    · have c' : ¬ (b p = 32 ∨ b p = 10) := fun h => c (decide_eq_true h)
      have c1 : ¬ b p = 32 := fun h => c' (Or.inl h)
      have c2 : ¬ b p = 10 := fun h => c' (Or.inr h)
      refine ⟨I, FrT_r, by rw [wl_n (fun h => c h.2)]; exact h4, fun Q => ?_⟩
      rw [x48_0]
      simp (disch := first | assumption | omega | decide) only [x48_1, x48_2, x48_3, x48_4, x48_5, x48_6, x48_7, x48_8, x48_9, x48_10, x48_11, x48_12, x48_13, x48_14, x48_15, x48_16, x48_17, x48_18, x48_19, x48_20, x48_21, x48_22, x48_23, x48_24, x48_25, ↓reduceIte, Option.toList, List.nil_append, List.cons_append, nI_add, pk_mul, n_and, n_or, n_xor, nI_leI, nI_ltI, nI_eq, n_z, uI_s, uI_n, bI_n0, bI_n1, bT, bF, if_true, if_false, not_true, not_false_eq_true, pk_div, pk_rem, Nat.reduceEqDiff, Nat.reduceLeDiff, Nat.reduceLT, Nat.reduceAdd, Nat.reduceMul, Nat.reduceSub, Nat.not_lt_zero, Nat.zero_le, reduceCtorEq, ite_self, n_rem, and_self, and_true, true_and, and_false, false_and, h4, e1, lp, e2, c1, c2]
theorem lp_letter (u1 u2 u3 : Option Value) : ∀ (m p : Nat), n - p = m → p ≤ n → ∀ I : Nat → Nat → Int32, TpC I b n → I 67 4 = nI p → ∀ Q, Rn sc (d + 1) 49 0 [some (.ref 67), u1, u2, u3] [] (K0, I, J, R1 T) Q = Rn sc (d + 1) 49 19 [some (.ref 67), u1, u2, u3] [] (K0, uI I 67 4 (nI (wlN isL b n p)), J, R1 T) Q := by
  intro m
  induction m with
  | zero =>
    intro p hm hp I t h4 Q
    have e1 := t.2.1
    have n3 := t.1
    have lp : n ≤ p := by omega
    have eI : uI I 67 4 (nI p) = I := by
      funext c k
      by_cases e : c = 67 ∧ k = 4
      · obtain ⟨rfl, rfl⟩ := e
        rw [uI_s, h4]
      · exact if_neg e
    rw [wl_n (by omega), eI, x49_0]
    simp (disch := first | assumption | omega | decide) only [x49_1, x49_2, x49_3, x49_4, ↓reduceIte, Option.toList, List.nil_append, List.cons_append, nI_add, pk_mul, n_and, n_or, n_xor, nI_leI, nI_ltI, nI_eq, n_z, uI_s, uI_n, bI_n0, bI_n1, bT, bF, if_true, if_false, not_true, not_false_eq_true, pk_div, pk_rem, Nat.reduceEqDiff, Nat.reduceLeDiff, Nat.reduceLT, Nat.reduceAdd, Nat.reduceMul, Nat.reduceSub, Nat.not_lt_zero, Nat.zero_le, reduceCtorEq, ite_self, n_rem, and_self, and_true, true_and, and_false, false_and, h4, e1, lp]
  | succ m ih =>
    intro p hm hp I t h4 Q
    have e1 := t.2.1
    have n3 := t.1
    have lp : ¬ n ≤ p := by omega
    obtain ⟨e2, b2⟩ := t.2.2 p (by omega)
    have p3 : p < 300 := by omega
    by_cases c : isL (b p) = true
    · have q1 := ih (p + 1) (by omega) (by omega) (uI I 67 4 (nI (p + 1))) (TpC_c t (FrT_u (by omega))) uI_s Q
      have eI : uI (uI I 67 4 (nI (p + 1))) 67 4 (nI (wlN isL b n (p + 1))) = uI I 67 4 (nI (wlN isL b n (p + 1))) := by
        funext c k
        by_cases e : c = 67 ∧ k = 4
        · obtain ⟨rfl, rfl⟩ := e
          rw [uI_s, uI_s]
        · exact (if_neg e).trans ((if_neg e).trans (if_neg e).symm)
      have sl := fun Q => sp_isLetter (sc := sc) (d := d) (I := I) (J := J) (T := T) (Q := Q) b2
      rw [bI_t c] at sl
      rw [eI] at q1
      rw [wl_y (by omega) c, ← q1, x49_0]
      simp (disch := first | assumption | omega | decide) only [x49_1, x49_2, x49_3, x49_4, x49_5, x49_6, x49_7, x49_8, x49_9, x49_10, x49_11, x49_12, x49_13, x49_14, x49_15, x49_16, x49_17, x49_18, ↓reduceIte, Option.toList, List.nil_append, List.cons_append, nI_add, pk_mul, n_and, n_or, n_xor, nI_leI, nI_ltI, nI_eq, n_z, uI_s, uI_n, bI_n0, bI_n1, bT, bF, if_true, if_false, not_true, not_false_eq_true, pk_div, pk_rem, Nat.reduceEqDiff, Nat.reduceLeDiff, Nat.reduceLT, Nat.reduceAdd, Nat.reduceMul, Nat.reduceSub, Nat.not_lt_zero, Nat.zero_le, reduceCtorEq, ite_self, n_rem, and_self, and_true, true_and, and_false, false_and, h4, e1, lp, e2, sl]
    · have sl := fun Q => sp_isLetter (sc := sc) (d := d) (I := I) (J := J) (T := T) (Q := Q) b2
      rw [bI_f c] at sl
      have eI : uI I 67 4 (nI p) = I := by
        funext c k
        by_cases e : c = 67 ∧ k = 4
        · obtain ⟨rfl, rfl⟩ := e
          rw [uI_s, h4]
        · exact if_neg e
      rw [wl_n (fun h => c h.2), eI, x49_0]
      simp (disch := first | assumption | omega | decide) only [x49_1, x49_2, x49_3, x49_4, x49_5, x49_6, x49_7, x49_8, x49_9, x49_10, x49_11, x49_12, x49_13, x49_14, x49_15, x49_16, x49_17, x49_18, ↓reduceIte, Option.toList, List.nil_append, List.cons_append, nI_add, pk_mul, n_and, n_or, n_xor, nI_leI, nI_ltI, nI_eq, n_z, uI_s, uI_n, bI_n0, bI_n1, bT, bF, if_true, if_false, not_true, not_false_eq_true, pk_div, pk_rem, Nat.reduceEqDiff, Nat.reduceLeDiff, Nat.reduceLT, Nat.reduceAdd, Nat.reduceMul, Nat.reduceSub, Nat.not_lt_zero, Nat.zero_le, reduceCtorEq, ite_self, n_rem, and_self, and_true, true_and, and_false, false_and, h4, e1, lp, e2, sl]
theorem lp_alike {I : Nat → Nat → Int32} {q e w : Nat} (t : TpC I b n) (hq : q ≤ e) (he : e ≤ n) (hw : w < 28) (h5 : I 67 5 = nI q) : ∀ (m j : Nat), j + m = 8 → (∀ i, i < j → mtC b q e w i = true) → ∀ Q, Rn sc (d + 4) 49 39 [some (.ref 67), some (.int (nI (e - q))), some (.int (nI w)), some (.int (nI j))] [] (K0, I, J, R1 T) Q = Rn sc (d + 4) 49 64 [some (.ref 67), some (.int (nI (e - q))), some (.int (nI w)), some (.int (nI (fi (fun i => !mtC b q e w i) 8)))] [] (K0, I, J, R1 T) Q := by
  intro m
  have n3 := t.1
  induction m with
  | zero =>
    intro j hj hn Q
    have lj : 8 ≤ j := by omega
    have e8 : fi (fun i => !mtC b q e w i) 8 = 8 := fi_n (fun i hi => by rw [hn i (by omega)]; rfl)
    have ej : j = 8 := by omega
    rw [e8, ej, x49_39]
    simp (disch := first | assumption | omega | decide) only [x49_40, x49_41, ↓reduceIte, Option.toList, List.nil_append, List.cons_append, nI_add, pk_mul, n_and, n_or, n_xor, nI_leI, nI_ltI, nI_eq, n_z, uI_s, uI_n, bI_n0, bI_n1, bT, bF, if_true, if_false, not_true, not_false_eq_true, pk_div, pk_rem, Nat.reduceEqDiff, Nat.reduceLeDiff, Nat.reduceLT, Nat.reduceAdd, Nat.reduceMul, Nat.reduceSub, Nat.not_lt_zero, Nat.zero_le, reduceCtorEq, ite_self, n_rem, and_self, and_true, true_and, and_false, false_and, Nat.le_refl]
  | succ m ih =>
    intro j hj hn Q
    have lj : ¬ 8 ≤ j := by omega
    have lw : w * 8 + j < 224 := by omega
    have l1 := wch_lt (w * 8 + j) lw
    have cw := fun Q => sp_charW (sc := sc) (d := d) (I := I) (J := J) (T := T) (Q := Q) lw
    have key : ∀ x, x < 256 → (if j < e - q then b (q + j) else 32) = x → (∀ Q, Rn sc (d + 4) 49 39 [some (.ref 67), some (.int (nI (e - q))), some (.int (nI w)), some (.int (nI j))] [] (K0, I, J, R1 T) Q = Rn sc (d + 4) 49 61 [some (.ref 67), some (.int (nI (e - q))), some (.int (nI w)), some (.int (nI j))] [.int (nI x), .int (nI (wch (w * 8 + j)))] (K0, I, J, R1 T) Q) := by
      intro x hx ex Q
      by_cases c : j < e - q
      · rw [if_pos c] at ex
        have c' : ¬ e - q ≤ j := by omega
        have e2 := (t.2.2 (q + j) (by omega)).1
        rw [ex] at e2
        have l3 : q + j < 300 := by omega
        rw [x49_39]
        simp (disch := first | assumption | omega | decide) only [x49_40, x49_41, x49_42, x49_43, x49_44, x49_45, x49_46, x49_47, x49_48, x49_49, x49_50, x49_51, x49_52, x49_53, x49_54, x49_55, x49_56, x49_57, x49_58, x49_59, x49_60, ↓reduceIte, Option.toList, List.nil_append, List.cons_append, nI_add, pk_mul, n_and, n_or, n_xor, nI_leI, nI_ltI, nI_eq, n_z, uI_s, uI_n, bI_n0, bI_n1, bT, bF, if_true, if_false, not_true, not_false_eq_true, pk_div, pk_rem, Nat.reduceEqDiff, Nat.reduceLeDiff, Nat.reduceLT, Nat.reduceAdd, Nat.reduceMul, Nat.reduceSub, Nat.not_lt_zero, Nat.zero_le, reduceCtorEq, ite_self, n_rem, and_self, and_true, true_and, and_false, false_and, lj, cw, c', h5, e2]
      · rw [if_neg c] at ex
        have c' : e - q ≤ j := by omega
        rw [← ex, x49_39]
        simp (disch := first | assumption | omega | decide) only [x49_40, x49_41, x49_42, x49_43, x49_44, x49_45, x49_46, x49_47, x49_48, x49_49, x49_50, x49_51, x49_52, x49_53, x49_54, x49_55, x49_56, x49_57, x49_58, x49_59, x49_60, ↓reduceIte, Option.toList, List.nil_append, List.cons_append, nI_add, pk_mul, n_and, n_or, n_xor, nI_leI, nI_ltI, nI_eq, n_z, uI_s, uI_n, bI_n0, bI_n1, bT, bF, if_true, if_false, not_true, not_false_eq_true, pk_div, pk_rem, Nat.reduceEqDiff, Nat.reduceLeDiff, Nat.reduceLT, Nat.reduceAdd, Nat.reduceMul, Nat.reduceSub, Nat.not_lt_zero, Nat.zero_le, reduceCtorEq, ite_self, n_rem, and_self, and_true, true_and, and_false, false_and, lj, cw, c']
    have hx : (if j < e - q then b (q + j) else 32) < 256 := by
      split
      · exact (t.2.2 (q + j) (by omega)).2
      · decide
    have k0 := key _ hx rfl Q
    by_cases c : mtC b q e w j = true
    · have c1 : wch (w * 8 + j) = if j < e - q then b (q + j) else 32 := of_decide_eq_true c
      rw [← ih (j + 1) (by omega) (fun i hi => by
        by_cases e : i = j
        · rw [e]; exact c
        · exact hn i (by omega)) Q, k0, ← c1]
      simp (disch := first | assumption | omega | decide) only [x49_61, x49_62, x49_63, ↓reduceIte, Option.toList, List.nil_append, List.cons_append, nI_add, pk_mul, n_and, n_or, n_xor, nI_leI, nI_ltI, nI_eq, n_z, uI_s, uI_n, bI_n0, bI_n1, bT, bF, if_true, if_false, not_true, not_false_eq_true, pk_div, pk_rem, Nat.reduceEqDiff, Nat.reduceLeDiff, Nat.reduceLT, Nat.reduceAdd, Nat.reduceMul, Nat.reduceSub, Nat.not_lt_zero, Nat.zero_le, reduceCtorEq, ite_self, n_rem, and_self, and_true, true_and, and_false, false_and]
    · have c1 : ¬ wch (w * 8 + j) = if j < e - q then b (q + j) else 32 := fun h => c (decide_eq_true h)
      have cf : mtC b q e w j = false := by
        cases cc : mtC b q e w j
        · rfl
        · exact absurd cc c
      have ej : fi (fun i => !mtC b q e w i) 8 = j := fi_u (by omega) (by show (!mtC b q e w j) = true; rw [cf]; rfl) (fun i hi => by show (!mtC b q e w i) = false; rw [hn i hi]; rfl)
      rw [ej, k0]
      simp (disch := first | assumption | omega | decide) only [x49_61, ↓reduceIte, Option.toList, List.nil_append, List.cons_append, nI_add, pk_mul, n_and, n_or, n_xor, nI_leI, nI_ltI, nI_eq, n_z, uI_s, uI_n, bI_n0, bI_n1, bT, bF, if_true, if_false, not_true, not_false_eq_true, pk_div, pk_rem, Nat.reduceEqDiff, Nat.reduceLeDiff, Nat.reduceLT, Nat.reduceAdd, Nat.reduceMul, Nat.reduceSub, Nat.not_lt_zero, Nat.zero_le, reduceCtorEq, ite_self, n_rem, and_self, and_true, true_and, and_false, false_and, c1]
theorem lp_words {I : Nat → Nat → Int32} {q e : Nat} (t : TpC I b n) (hq : q ≤ e) (he : e ≤ n) (h5 : I 67 5 = nI q) (h6 : I 67 6 = nI 43) : ∀ (m w : Nat) (u3 : Option Value), w + m = 28 → (∀ i, i < w → mtW b q e i = false) → ∃ I', FrT I I' ∧ I' 67 4 = I 67 4 ∧ I' 67 5 = I 67 5 ∧ I' 67 6 = nI (wK b q e) ∧ ∀ Q, Rn sc (d + 4) 49 30 [some (.ref 67), some (.int (nI (e - q))), some (.int (nI w)), u3] [] (K0, I, J, R1 T) Q = Q none (K0, I', J, R1 T) := by
  intro m
  have n3 := t.1
  induction m with
  | zero =>
    intro w u3 hw hn
    have e8 : fi (mtW b q e) 28 = 28 := fi_n (fun i hi => hn i (by omega))
    have ek : wK b q e = 43 := by
      unfold wK
      rw [e8, if_neg (Nat.lt_irrefl 28)]
    have lw : 28 ≤ w := by omega
    refine ⟨I, FrT_r, rfl, rfl, by rw [ek]; exact h6, fun Q => ?_⟩
    rw [x49_30]
    simp (disch := first | assumption | omega | decide) only [x49_31, x49_32, x49_75, ↓reduceIte, Option.toList, List.nil_append, List.cons_append, nI_add, pk_mul, n_and, n_or, n_xor, nI_leI, nI_ltI, nI_eq, n_z, uI_s, uI_n, bI_n0, bI_n1, bT, bF, if_true, if_false, not_true, not_false_eq_true, pk_div, pk_rem, Nat.reduceEqDiff, Nat.reduceLeDiff, Nat.reduceLT, Nat.reduceAdd, Nat.reduceMul, Nat.reduceSub, Nat.not_lt_zero, Nat.zero_le, reduceCtorEq, ite_self, n_rem, and_self, and_true, true_and, and_false, false_and, lw]
  | succ m ih =>
    intro w u3 hw hn
    have lw : ¬ 28 ≤ w := by omega
    have al := lp_alike (sc := sc) (d := d) (J := J) (T := T) (w := w) t hq he (by omega) h5 8 0 rfl (fun i hi => by omega)
    obtain ⟨f8, -, -⟩ := fi_sp (f := fun i => !mtC b q e w i) 8
    have st : ∀ Q, Rn sc (d + 4) 49 30 [some (.ref 67), some (.int (nI (e - q))), some (.int (nI w)), u3] [] (K0, I, J, R1 T) Q = Rn sc (d + 4) 49 64 [some (.ref 67), some (.int (nI (e - q))), some (.int (nI w)), some (.int (nI (fi (fun i => !mtC b q e w i) 8)))] [] (K0, I, J, R1 T) Q := fun Q => by
      rw [← al Q, x49_30]
      simp (disch := first | assumption | omega | decide) only [x49_31, x49_32, x49_33, x49_34, x49_35, x49_36, x49_37, x49_38, ↓reduceIte, Option.toList, List.nil_append, List.cons_append, nI_add, pk_mul, n_and, n_or, n_xor, nI_leI, nI_ltI, nI_eq, n_z, uI_s, uI_n, bI_n0, bI_n1, bT, bF, if_true, if_false, not_true, not_false_eq_true, pk_div, pk_rem, Nat.reduceEqDiff, Nat.reduceLeDiff, Nat.reduceLT, Nat.reduceAdd, Nat.reduceMul, Nat.reduceSub, Nat.not_lt_zero, Nat.zero_le, reduceCtorEq, ite_self, n_rem, and_self, and_true, true_and, and_false, false_and, lw, h6]
    by_cases c : mtW b q e w = true
    · have c0 : e - q ≤ 8 ∧ fi (fun i => !mtC b q e w i) 8 = 8 := by
        unfold mtW at c
        rw [Bool.and_eq_true] at c
        exact ⟨of_decide_eq_true c.1, of_decide_eq_true c.2⟩
      have c1 : ¬ 8 < e - q := by omega
      have ek : wK b q e = w := by
        have : fi (mtW b q e) 28 = w := fi_u (by omega) c hn
        unfold wK
        rw [this, if_pos (by omega)]
      have w43 : ¬ w = 43 := by omega
      refine ⟨uI I 67 6 (nI w), FrT_u (by omega), uI_n (by omega), uI_n (by omega), by rw [ek, uI_s], fun Q => ?_⟩
      rw [st Q, c0.2]
      simp (disch := first | assumption | omega | decide) only [x49_64, x49_65, x49_66, x49_67, x49_68, x49_69, x49_70, x49_71, x49_72, x49_73, x49_74, ↓reduceIte, Option.toList, List.nil_append, List.cons_append, nI_add, pk_mul, n_and, n_or, n_xor, nI_leI, nI_ltI, nI_eq, n_z, uI_s, uI_n, bI_n0, bI_n1, bT, bF, if_true, if_false, not_true, not_false_eq_true, pk_div, pk_rem, Nat.reduceEqDiff, Nat.reduceLeDiff, Nat.reduceLT, Nat.reduceAdd, Nat.reduceMul, Nat.reduceSub, Nat.not_lt_zero, Nat.zero_le, reduceCtorEq, ite_self, n_rem, and_self, and_true, true_and, and_false, false_and, c1]
      rw [x49_30]
      by_cases l2 : 28 ≤ w + 1
      · simp (disch := first | assumption | omega | decide) only [x49_31, x49_32, x49_33, x49_34, x49_35, x49_36, x49_75, ↓reduceIte, Option.toList, List.nil_append, List.cons_append, nI_add, pk_mul, n_and, n_or, n_xor, nI_leI, nI_ltI, nI_eq, n_z, uI_s, uI_n, bI_n0, bI_n1, bT, bF, if_true, if_false, not_true, not_false_eq_true, pk_div, pk_rem, Nat.reduceEqDiff, Nat.reduceLeDiff, Nat.reduceLT, Nat.reduceAdd, Nat.reduceMul, Nat.reduceSub, Nat.not_lt_zero, Nat.zero_le, reduceCtorEq, ite_self, n_rem, and_self, and_true, true_and, and_false, false_and, l2]
      · simp (disch := first | assumption | omega | decide) only [x49_31, x49_32, x49_33, x49_34, x49_35, x49_36, x49_75, ↓reduceIte, Option.toList, List.nil_append, List.cons_append, nI_add, pk_mul, n_and, n_or, n_xor, nI_leI, nI_ltI, nI_eq, n_z, uI_s, uI_n, bI_n0, bI_n1, bT, bF, if_true, if_false, not_true, not_false_eq_true, pk_div, pk_rem, Nat.reduceEqDiff, Nat.reduceLeDiff, Nat.reduceLT, Nat.reduceAdd, Nat.reduceMul, Nat.reduceSub, Nat.not_lt_zero, Nat.zero_le, reduceCtorEq, ite_self, n_rem, and_self, and_true, true_and, and_false, false_and, l2, w43]
    · have cf : mtW b q e w = false := by
        cases cc : mtW b q e w
        · rfl
        · exact absurd cc c
      obtain ⟨I1, f1, k4, k5, k6, q1⟩ := ih (w + 1) (some (.int (nI (fi (fun i => !mtC b q e w i) 8)))) (by omega) (fun i hi => by
        by_cases e : i = w
        · rw [e]; exact cf
        · exact hn i (by omega))
      refine ⟨I1, f1, k4, k5, k6, fun Q => ?_⟩
      rw [st Q, ← q1 Q]
      by_cases c8 : fi (fun i => !mtC b q e w i) 8 = 8
      · have c1 : 8 < e - q := by
          apply Classical.byContradiction
          intro hc
          apply c
          unfold mtW
          rw [decide_eq_true (show e - q ≤ 8 by omega), decide_eq_true c8]
          rfl
        simp (disch := first | assumption | omega | decide) only [x49_64, x49_65, x49_66, x49_67, x49_68, x49_69, x49_73, x49_74, ↓reduceIte, Option.toList, List.nil_append, List.cons_append, nI_add, pk_mul, n_and, n_or, n_xor, nI_leI, nI_ltI, nI_eq, n_z, uI_s, uI_n, bI_n0, bI_n1, bT, bF, if_true, if_false, not_true, not_false_eq_true, pk_div, pk_rem, Nat.reduceEqDiff, Nat.reduceLeDiff, Nat.reduceLT, Nat.reduceAdd, Nat.reduceMul, Nat.reduceSub, Nat.not_lt_zero, Nat.zero_le, reduceCtorEq, ite_self, n_rem, and_self, and_true, true_and, and_false, false_and, c8, c1]
      · simp (disch := first | assumption | omega | decide) only [x49_64, x49_65, x49_66, x49_73, x49_74, ↓reduceIte, Option.toList, List.nil_append, List.cons_append, nI_add, pk_mul, n_and, n_or, n_xor, nI_leI, nI_ltI, nI_eq, n_z, uI_s, uI_n, bI_n0, bI_n1, bT, bF, if_true, if_false, not_true, not_false_eq_true, pk_div, pk_rem, Nat.reduceEqDiff, Nat.reduceLeDiff, Nat.reduceLT, Nat.reduceAdd, Nat.reduceMul, Nat.reduceSub, Nat.not_lt_zero, Nat.zero_le, reduceCtorEq, ite_self, n_rem, and_self, and_true, true_and, and_false, false_and, c8]
theorem sp_nxword {I : Nat → Nat → Int32} {q : Nat} (t : TpC I b n) (hq : q ≤ n) (h4 : I 67 4 = nI q) (h5 : I 67 5 = nI q) : ∃ I', FrT I I' ∧ I' 67 4 = nI (wlN isL b n q) ∧ I' 67 5 = nI q ∧ I' 67 6 = nI (wK b q (wlN isL b n q)) ∧ ∀ Q, Rn sc (d + 4) 49 0 [some (.ref 67), none, none, none] [] (K0, I, J, R1 T) Q = Q none (K0, I', J, R1 T) := by
  have n3 := t.1
  have g1 := wl_ge (P := isL) (b := b) hq
  have g2 := wl_le (P := isL) (b := b) hq
  have l1 := lp_letter (sc := sc) (d := d + 3) (J := J) (T := T) none none none (n - q) q rfl hq I t h4
  obtain ⟨e, ee⟩ : ∃ e, e = wlN isL b n q := ⟨_, rfl⟩
  rw [← ee] at g1 g2 l1 ⊢
  obtain ⟨I2, eI⟩ : ∃ X, X = uI (uI I 67 4 (nI e)) 67 6 (nI 43) := ⟨_, rfl⟩
  have f2 : FrT I I2 := by
    rw [eI]
    exact FrT_t (FrT_u (by omega)) (FrT_u (by omega))
  obtain ⟨I3, f3, k4, k5, k6, q3⟩ := lp_words (sc := sc) (d := d) (J := J) (T := T) (I := I2) (TpC_c t f2) g1 g2 (by rw [eI, uI_n (by omega), uI_n (by omega)]; exact h5) (by rw [eI, uI_s]) 28 0 none rfl (fun i hi => by omega)
  refine ⟨I3, FrT_t f2 f3, by rw [k4, eI, uI_n (by omega), uI_s], by rw [k5, eI, uI_n (by omega), uI_n (by omega)]; exact h5, k6, fun Q => ?_⟩
  rw [l1 Q, ← q3 Q, eI]
  simp (disch := first | assumption | omega | decide) only [x49_19, x49_20, x49_21, x49_22, x49_23, x49_24, x49_25, x49_26, x49_27, x49_28, x49_29, ↓reduceIte, Option.toList, List.nil_append, List.cons_append, nI_add, pk_mul, n_and, n_or, n_xor, nI_leI, nI_ltI, nI_eq, n_z, uI_s, uI_n, bI_n0, bI_n1, bT, bF, if_true, if_false, not_true, not_false_eq_true, pk_div, pk_rem, Nat.reduceEqDiff, Nat.reduceLeDiff, Nat.reduceLT, Nat.reduceAdd, Nat.reduceMul, Nat.reduceSub, Nat.not_lt_zero, Nat.zero_le, reduceCtorEq, ite_self, n_rem, and_self, and_true, true_and, and_false, false_and, h5, n_sub g1]
theorem lp_digit {q : Nat} : ∀ (m p : Nat), n - p = m → q ≤ p → p ≤ n → ∀ I : Nat → Nat → Int32, TpC I b n → I 67 4 = nI p → I 67 7 = nI (nvF b q (p - q)) → ∃ I', FrT I I' ∧ I' 67 4 = nI (wlN isD b n p) ∧ I' 67 5 = I 67 5 ∧ I' 67 6 = I 67 6 ∧ I' 67 7 = nI (nvF b q (wlN isD b n p - q)) ∧ ∀ Q, Rn sc (d + 1) 50 6 [some (.ref 67)] [] (K0, I, J, R1 T) Q = Q none (K0, I', J, R1 T) := by
  intro m
  induction m with
  | zero =>
    intro p hm hq hp I t h4 h7
    have e1 := t.2.1
    have n3 := t.1
    have lp : n ≤ p := by omega
    have ew : wlN isD b n p = p := wl_n (by omega)
    rw [ew]
    refine ⟨I, FrT_r, h4, rfl, rfl, h7, fun Q => ?_⟩
    rw [x50_6]
    simp (disch := first | assumption | omega | decide) only [x50_7, x50_8, x50_9, x50_10, x50_41, ↓reduceIte, Option.toList, List.nil_append, List.cons_append, nI_add, pk_mul, n_and, n_or, n_xor, nI_leI, nI_ltI, nI_eq, n_z, uI_s, uI_n, bI_n0, bI_n1, bT, bF, if_true, if_false, not_true, not_false_eq_true, pk_div, pk_rem, Nat.reduceEqDiff, Nat.reduceLeDiff, Nat.reduceLT, Nat.reduceAdd, Nat.reduceMul, Nat.reduceSub, Nat.not_lt_zero, Nat.zero_le, reduceCtorEq, ite_self, n_rem, and_self, and_true, true_and, and_false, false_and, h4, e1, lp]
  | succ m ih =>
    intro p hm hq hp I t h4 h7
    have e1 := t.2.1
    have n3 := t.1
    have lp : ¬ n ≤ p := by omega
    obtain ⟨e2, b2⟩ := t.2.2 p (by omega)
    have p3 : p < 300 := by omega
    have sl := fun Q => sp_isDigit (sc := sc) (d := d) (I := I) (J := J) (T := T) (Q := Q) b2
    by_cases c : isD (b p) = true
    · have c' : 48 ≤ b p ∧ b p ≤ 57 := of_decide_eq_true c
      have nl := nv_le (b := b) (q := q) (p - q)
      obtain ⟨I2, eI⟩ : ∃ X, X = uI (uI I 67 7 (nI (nvF b q (p + 1 - q)))) 67 4 (nI (p + 1)) := ⟨_, rfl⟩
      have f2 : FrT I I2 := by
        rw [eI]
        exact FrT_t (FrT_u (by omega)) (FrT_u (by omega))
      obtain ⟨I1, f1, k4, k5, k6, k7, q1⟩ := ih (p + 1) (by omega) (by omega) (by omega) I2 (TpC_c t f2) (by rw [eI, uI_s]) (by rw [eI, uI_n (by omega), uI_s])
      rw [wl_y (by omega) c]
      refine ⟨I1, FrT_t f2 f1, k4, by rw [k5, eI, uI_n (by omega), uI_n (by omega)], by rw [k6, eI, uI_n (by omega), uI_n (by omega)], k7, fun Q => ?_⟩
      have ev : nvF b q (p + 1 - q) = if 10000 < nvF b q (p - q) * 10 + b p - 48 then 10000 else nvF b q (p - q) * 10 + b p - 48 := by
        rw [show p + 1 - q = p - q + 1 by omega, nvF, show q + (p - q) = p by omega]
      rw [bI_t c] at sl
      rw [← q1 Q, eI, x50_6]
      by_cases c3 : 10000 < nvF b q (p - q) * 10 + b p - 48
      · rw [if_pos c3] at ev
        rw [ev]
        simp (disch := first | assumption | omega | decide) only [x50_7, x50_8, x50_9, x50_10, x50_11, x50_12, x50_13, x50_14, x50_15, x50_16, x50_17, x50_18, x50_19, x50_20, x50_21, x50_22, x50_23, x50_24, x50_25, x50_26, x50_27, x50_28, x50_29, x50_30, x50_31, x50_32, x50_33, x50_34, x50_35, x50_36, x50_37, x50_38, x50_39, x50_40, ↓reduceIte, Option.toList, List.nil_append, List.cons_append, nI_add, pk_mul, n_and, n_or, n_xor, nI_leI, nI_ltI, nI_eq, n_z, uI_s, uI_n, bI_n0, bI_n1, bT, bF, if_true, if_false, not_true, not_false_eq_true, pk_div, pk_rem, Nat.reduceEqDiff, Nat.reduceLeDiff, Nat.reduceLT, Nat.reduceAdd, Nat.reduceMul, Nat.reduceSub, Nat.not_lt_zero, Nat.zero_le, reduceCtorEq, ite_self, n_rem, and_self, and_true, true_and, and_false, false_and, h4, e1, lp, e2, sl, h7, n_sub (show 48 ≤ nvF b q (p - q) * 10 + b p by omega), c3]
      · rw [if_neg c3] at ev
        rw [ev]
        simp (disch := first | assumption | omega | decide) only [x50_7, x50_8, x50_9, x50_10, x50_11, x50_12, x50_13, x50_14, x50_15, x50_16, x50_17, x50_18, x50_19, x50_20, x50_21, x50_22, x50_23, x50_24, x50_25, x50_26, x50_27, x50_28, x50_29, x50_30, x50_31, x50_32, x50_33, x50_34, x50_35, x50_36, x50_37, x50_38, x50_39, x50_40, ↓reduceIte, Option.toList, List.nil_append, List.cons_append, nI_add, pk_mul, n_and, n_or, n_xor, nI_leI, nI_ltI, nI_eq, n_z, uI_s, uI_n, bI_n0, bI_n1, bT, bF, if_true, if_false, not_true, not_false_eq_true, pk_div, pk_rem, Nat.reduceEqDiff, Nat.reduceLeDiff, Nat.reduceLT, Nat.reduceAdd, Nat.reduceMul, Nat.reduceSub, Nat.not_lt_zero, Nat.zero_le, reduceCtorEq, ite_self, n_rem, and_self, and_true, true_and, and_false, false_and, h4, e1, lp, e2, sl, h7, n_sub (show 48 ≤ nvF b q (p - q) * 10 + b p by omega), c3]
    · rw [bI_f c] at sl
      have ew : wlN isD b n p = p := wl_n (fun h => c h.2)
      rw [ew]
      refine ⟨I, FrT_r, h4, rfl, rfl, h7, fun Q => ?_⟩
      rw [x50_6]
      simp (disch := first | assumption | omega | decide) only [x50_7, x50_8, x50_9, x50_10, x50_11, x50_12, x50_13, x50_14, x50_15, x50_16, x50_17, x50_41, ↓reduceIte, Option.toList, List.nil_append, List.cons_append, nI_add, pk_mul, n_and, n_or, n_xor, nI_leI, nI_ltI, nI_eq, n_z, uI_s, uI_n, bI_n0, bI_n1, bT, bF, if_true, if_false, not_true, not_false_eq_true, pk_div, pk_rem, Nat.reduceEqDiff, Nat.reduceLeDiff, Nat.reduceLT, Nat.reduceAdd, Nat.reduceMul, Nat.reduceSub, Nat.not_lt_zero, Nat.zero_le, reduceCtorEq, ite_self, n_rem, and_self, and_true, true_and, and_false, false_and, h4, e1, lp, e2, sl]
theorem sK_r (c : Nat) : sK c ≤ 43 := by
  unfold sK
  split <;> omega
theorem sp_sign {I : Nat → Nat → Int32} {q : Nat} (t : TpC I b n) (hq : q < n) (h4 : I 67 4 = nI q) (h5 : I 67 5 = nI q) : ∃ I', FrT I I' ∧ I' 67 4 = nI (if lt2 b n q = true then q + 2 else q + 1) ∧ I' 67 5 = nI q ∧ I' 67 6 = nI (if lt2 b n q = true then (if sK (b q) = 28 then 39 else 40) else sK (b q)) ∧ ∀ Q, Rn sc (d + 4) 51 0 [some (.ref 67), none] [] (K0, I, J, R1 T) Q = Q none (K0, I', J, R1 T) := by
  have n3 := t.1
  have e1 := t.2.1
  obtain ⟨e2, b2⟩ := t.2.2 q hq
  have q3 : q < 300 := by omega
  have kr := sK_r (b q)
  have ic := i2c_all (b q) b2
  have ix := fun Q => sp_idx (sc := sc) (d := d) (I := I) (J := J) (T := T) (Q := Q) b2
  obtain ⟨I1, eI⟩ : ∃ X, X = uI (uI I 67 4 (nI (q + 1))) 67 6 (nI (sK (b q))) := ⟨_, rfl⟩
  have f1 : FrT I I1 := by
    rw [eI]
    exact FrT_t (FrT_u (by omega)) (FrT_u (by omega))
  have a4 : I1 67 4 = nI (q + 1) := by rw [eI, uI_n (by omega), uI_s]
  have a5 : I1 67 5 = nI q := by rw [eI, uI_n (by omega), uI_n (by omega)]; exact h5
  have a6 : I1 67 6 = nI (sK (b q)) := by rw [eI, uI_s]
  have a1 := (f1 67 1 (by omega)).trans e1
  have st : ∃ u, ∀ Q, Rn sc (d + 4) 51 0 [some (.ref 67), none] [] (K0, I, J, R1 T) Q = Rn sc (d + 4) 51 24 [some (.ref 67), some (.int u)] [] (K0, I1, J, R1 T) Q := by
    by_cases c : fi (fun j => decide (sch j = b q)) 11 < 11
    · have ek : sK (b q) = 28 + fi (fun j => decide (sch j = b q)) 11 := if_pos c
      rw [if_pos c] at ix
      refine ⟨nI (fi (fun j => decide (sch j = b q)) 11), fun Q => ?_⟩
      rw [eI, ek]
      simp (disch := first | assumption | omega | decide) only [x51_0, x51_1, x51_2, x51_3, x51_4, x51_5, x51_6, x51_7, x51_8, x51_9, x51_10, x51_11, x51_12, x51_13, x51_14, x51_15, x51_16, x51_17, x51_18, x51_19, x51_20, x51_21, x51_22, x51_23, ↓reduceIte, Option.toList, List.nil_append, List.cons_append, nI_add, pk_mul, n_and, n_or, n_xor, nI_leI, nI_ltI, nI_eq, n_z, uI_s, uI_n, bI_n0, bI_n1, bT, bF, if_true, if_false, not_true, not_false_eq_true, pk_div, pk_rem, Nat.reduceEqDiff, Nat.reduceLeDiff, Nat.reduceLT, Nat.reduceAdd, Nat.reduceMul, Nat.reduceSub, Nat.not_lt_zero, Nat.zero_le, reduceCtorEq, ite_self, n_rem, and_self, and_true, true_and, and_false, false_and, h4, e2, ic, ix]
    · have ek : sK (b q) = 43 := if_neg c
      rw [if_neg c] at ix
      refine ⟨-1, fun Q => ?_⟩
      rw [eI, ek]
      simp (disch := first | assumption | omega | decide) only [x51_0, x51_1, x51_2, x51_3, x51_4, x51_5, x51_6, x51_7, x51_8, x51_9, x51_10, x51_11, x51_12, x51_13, x51_14, x51_15, x51_16, x51_17, x51_18, x51_19, x51_20, x51_21, x51_22, x51_23, ↓reduceIte, Option.toList, List.nil_append, List.cons_append, nI_add, pk_mul, n_and, n_or, n_xor, nI_leI, nI_ltI, nI_eq, n_z, uI_s, uI_n, bI_n0, bI_n1, bT, bF, if_true, if_false, not_true, not_false_eq_true, pk_div, pk_rem, Nat.reduceEqDiff, Nat.reduceLeDiff, Nat.reduceLT, Nat.reduceAdd, Nat.reduceMul, Nat.reduceSub, Nat.not_lt_zero, Nat.zero_le, reduceCtorEq, ite_self, n_rem, and_self, and_true, true_and, and_false, false_and, h4, e2, ic, ix, show (nI 0 ≤ (-1 : Int32)) = False from eq_false (by decide)]
  obtain ⟨u, st⟩ := st
  by_cases c : lt2 b n q = true
  · obtain ⟨c1, c2, c3⟩ := of_decide_eq_true c
    have e3 := (t.2.2 (q + 1) c2).1
    rw [c3] at e3
    have e3 := (f1 68 (q + 1) (by omega)).trans e3
    have l2 : ¬ n ≤ q + 1 := by omega
    have q4 : q + 1 < 300 := by omega
    rw [if_pos c, if_pos c]
    refine ⟨uI (uI I1 67 4 (nI (q + 2))) 67 6 (nI (if sK (b q) = 28 then 39 else 40)), FrT_t f1 (FrT_t (FrT_u (by omega)) (FrT_u (by omega))), by rw [uI_n (by omega), uI_s], by rw [uI_n (by omega), uI_n (by omega)]; exact a5, uI_s, fun Q => ?_⟩
    rw [st Q]
    rcases c1 with c1 | c1
    · rw [if_pos c1]
      rw [c1] at a6
      simp (disch := first | assumption | omega | decide) only [x51_24, x51_25, x51_26, x51_27, x51_28, x51_29, x51_30, x51_31, x51_32, x51_33, x51_34, x51_35, x51_36, x51_37, x51_38, x51_39, x51_40, x51_41, x51_42, x51_43, x51_44, x51_45, x51_46, x51_47, x51_48, x51_49, x51_50, x51_51, x51_52, x51_53, x51_54, x51_55, x51_56, x51_57, x51_58, x51_59, ↓reduceIte, Option.toList, List.nil_append, List.cons_append, nI_add, pk_mul, n_and, n_or, n_xor, nI_leI, nI_ltI, nI_eq, n_z, uI_s, uI_n, bI_n0, bI_n1, bT, bF, if_true, if_false, not_true, not_false_eq_true, pk_div, pk_rem, Nat.reduceEqDiff, Nat.reduceLeDiff, Nat.reduceLT, Nat.reduceAdd, Nat.reduceMul, Nat.reduceSub, Nat.not_lt_zero, Nat.zero_le, reduceCtorEq, ite_self, n_rem, and_self, and_true, true_and, and_false, false_and, a6, a4, a1, l2, e3]
    · rw [if_neg (by omega)]
      rw [c1] at a6
      simp (disch := first | assumption | omega | decide) only [x51_24, x51_25, x51_26, x51_27, x51_28, x51_29, x51_30, x51_31, x51_32, x51_33, x51_34, x51_35, x51_36, x51_37, x51_38, x51_39, x51_40, x51_41, x51_42, x51_43, x51_44, x51_45, x51_46, x51_47, x51_48, x51_49, x51_50, x51_51, x51_52, x51_53, x51_54, x51_55, x51_56, x51_57, x51_58, x51_59, ↓reduceIte, Option.toList, List.nil_append, List.cons_append, nI_add, pk_mul, n_and, n_or, n_xor, nI_leI, nI_ltI, nI_eq, n_z, uI_s, uI_n, bI_n0, bI_n1, bT, bF, if_true, if_false, not_true, not_false_eq_true, pk_div, pk_rem, Nat.reduceEqDiff, Nat.reduceLeDiff, Nat.reduceLT, Nat.reduceAdd, Nat.reduceMul, Nat.reduceSub, Nat.not_lt_zero, Nat.zero_le, reduceCtorEq, ite_self, n_rem, and_self, and_true, true_and, and_false, false_and, a6, a4, a1, l2, e3]
  · rw [if_neg c, if_neg c]
    refine ⟨I1, f1, a4, a5, a6, fun Q => ?_⟩
    rw [st Q]
    by_cases c1 : sK (b q) = 28
    · by_cases c2 : n ≤ q + 1
      · simp (disch := first | assumption | omega | decide) only [x51_24, x51_25, x51_26, x51_27, x51_28, x51_29, x51_30, x51_31, x51_32, x51_33, x51_34, x51_35, x51_36, x51_37, x51_38, x51_39, x51_40, x51_41, x51_42, x51_43, x51_44, x51_45, x51_46, x51_47, x51_48, x51_49, x51_50, x51_51, x51_52, x51_53, x51_54, x51_55, x51_56, x51_57, x51_58, x51_59, ↓reduceIte, Option.toList, List.nil_append, List.cons_append, nI_add, pk_mul, n_and, n_or, n_xor, nI_leI, nI_ltI, nI_eq, n_z, uI_s, uI_n, bI_n0, bI_n1, bT, bF, if_true, if_false, not_true, not_false_eq_true, pk_div, pk_rem, Nat.reduceEqDiff, Nat.reduceLeDiff, Nat.reduceLT, Nat.reduceAdd, Nat.reduceMul, Nat.reduceSub, Nat.not_lt_zero, Nat.zero_le, reduceCtorEq, ite_self, n_rem, and_self, and_true, true_and, and_false, false_and, a6, a4, a1, c1, c2]
      · have q4 : q + 1 < 300 := by omega
        obtain ⟨e3, b3⟩ := t.2.2 (q + 1) (by omega)
        have e3 := (f1 68 (q + 1) (by omega)).trans e3
        have c3 : ¬ b (q + 1) = 61 := fun h => c (decide_eq_true ⟨Or.inl c1, by omega, h⟩)
        simp (disch := first | assumption | omega | decide) only [x51_24, x51_25, x51_26, x51_27, x51_28, x51_29, x51_30, x51_31, x51_32, x51_33, x51_34, x51_35, x51_36, x51_37, x51_38, x51_39, x51_40, x51_41, x51_42, x51_43, x51_44, x51_45, x51_46, x51_47, x51_48, x51_49, x51_50, x51_51, x51_52, x51_53, x51_54, x51_55, x51_56, x51_57, x51_58, x51_59, ↓reduceIte, Option.toList, List.nil_append, List.cons_append, nI_add, pk_mul, n_and, n_or, n_xor, nI_leI, nI_ltI, nI_eq, n_z, uI_s, uI_n, bI_n0, bI_n1, bT, bF, if_true, if_false, not_true, not_false_eq_true, pk_div, pk_rem, Nat.reduceEqDiff, Nat.reduceLeDiff, Nat.reduceLT, Nat.reduceAdd, Nat.reduceMul, Nat.reduceSub, Nat.not_lt_zero, Nat.zero_le, reduceCtorEq, ite_self, n_rem, and_self, and_true, true_and, and_false, false_and, a6, a4, a1, c1, c2, e3, c3]
    · by_cases c1' : sK (b q) = 29
      · by_cases c2 : n ≤ q + 1
        · simp (disch := first | assumption | omega | decide) only [x51_24, x51_25, x51_26, x51_27, x51_28, x51_29, x51_30, x51_31, x51_32, x51_33, x51_34, x51_35, x51_36, x51_37, x51_38, x51_39, x51_40, x51_41, x51_42, x51_43, x51_44, x51_45, x51_46, x51_47, x51_48, x51_49, x51_50, x51_51, x51_52, x51_53, x51_54, x51_55, x51_56, x51_57, x51_58, x51_59, ↓reduceIte, Option.toList, List.nil_append, List.cons_append, nI_add, pk_mul, n_and, n_or, n_xor, nI_leI, nI_ltI, nI_eq, n_z, uI_s, uI_n, bI_n0, bI_n1, bT, bF, if_true, if_false, not_true, not_false_eq_true, pk_div, pk_rem, Nat.reduceEqDiff, Nat.reduceLeDiff, Nat.reduceLT, Nat.reduceAdd, Nat.reduceMul, Nat.reduceSub, Nat.not_lt_zero, Nat.zero_le, reduceCtorEq, ite_self, n_rem, and_self, and_true, true_and, and_false, false_and, a6, a4, a1, c1', c2]
        · have q4 : q + 1 < 300 := by omega
          obtain ⟨e3, b3⟩ := t.2.2 (q + 1) (by omega)
          have e3 := (f1 68 (q + 1) (by omega)).trans e3
          have c3 : ¬ b (q + 1) = 61 := fun h => c (decide_eq_true ⟨Or.inr c1', by omega, h⟩)
          simp (disch := first | assumption | omega | decide) only [x51_24, x51_25, x51_26, x51_27, x51_28, x51_29, x51_30, x51_31, x51_32, x51_33, x51_34, x51_35, x51_36, x51_37, x51_38, x51_39, x51_40, x51_41, x51_42, x51_43, x51_44, x51_45, x51_46, x51_47, x51_48, x51_49, x51_50, x51_51, x51_52, x51_53, x51_54, x51_55, x51_56, x51_57, x51_58, x51_59, ↓reduceIte, Option.toList, List.nil_append, List.cons_append, nI_add, pk_mul, n_and, n_or, n_xor, nI_leI, nI_ltI, nI_eq, n_z, uI_s, uI_n, bI_n0, bI_n1, bT, bF, if_true, if_false, not_true, not_false_eq_true, pk_div, pk_rem, Nat.reduceEqDiff, Nat.reduceLeDiff, Nat.reduceLT, Nat.reduceAdd, Nat.reduceMul, Nat.reduceSub, Nat.not_lt_zero, Nat.zero_le, reduceCtorEq, ite_self, n_rem, and_self, and_true, true_and, and_false, false_and, a6, a4, a1, c1', c2, e3, c3]
      · simp (disch := first | assumption | omega | decide) only [x51_24, x51_25, x51_26, x51_27, x51_28, x51_29, x51_30, x51_31, x51_32, x51_33, x51_34, x51_35, x51_36, x51_37, x51_38, x51_39, x51_40, x51_41, x51_42, x51_43, x51_44, x51_45, x51_46, x51_47, x51_48, x51_49, x51_50, x51_51, x51_52, x51_53, x51_54, x51_55, x51_56, x51_57, x51_58, x51_59, ↓reduceIte, Option.toList, List.nil_append, List.cons_append, nI_add, pk_mul, n_and, n_or, n_xor, nI_leI, nI_ltI, nI_eq, n_z, uI_s, uI_n, bI_n0, bI_n1, bT, bF, if_true, if_false, not_true, not_false_eq_true, pk_div, pk_rem, Nat.reduceEqDiff, Nat.reduceLeDiff, Nat.reduceLT, Nat.reduceAdd, Nat.reduceMul, Nat.reduceSub, Nat.not_lt_zero, Nat.zero_le, reduceCtorEq, ite_self, n_rem, and_self, and_true, true_and, and_false, false_and, a6, c1, c1']
theorem sp_next {I : Nat → Nat → Int32} {p : Nat} (t : TpC I b n) (hp : p ≤ n) (h4 : I 67 4 = nI p) : ∃ I', FrT I I' ∧ TkC I' b n p ∧ ∀ Q, Rn sc (d + 5) 48 0 [some (.ref 67)] [] (K0, I, J, R1 T) Q = Q none (K0, I', J, R1 T) := by
  have n3 := t.1
  obtain ⟨I1, f1, k1, q1⟩ := lp_blank (sc := sc) (d := d + 5) (J := J) (T := T) (n - p) p rfl hp I t h4
  obtain ⟨g1, g2⟩ := tS_le (b := b) hp
  have k1 : I1 67 4 = nI (tS b n p) := k1
  unfold TkC tX tK tV
  obtain ⟨q, eq⟩ : ∃ q, q = tS b n p := ⟨_, rfl⟩
  rw [← eq] at k1 g1 g2 ⊢
  obtain ⟨I2, eI⟩ : ∃ X, X = uI I1 67 5 (nI q) := ⟨_, rfl⟩
  have f2 : FrT I I2 := by
    rw [eI]
    exact FrT_t f1 (FrT_u (by omega))
  have t2 := TpC_c t f2
  have e1 := t2.2.1
  have a4 : I2 67 4 = nI q := by rw [eI, uI_n (by omega)]; exact k1
  have a5 : I2 67 5 = nI q := by rw [eI, uI_s]
  have st : ∀ Q, Rn sc (d + 5) 48 0 [some (.ref 67)] [] (K0, I, J, R1 T) Q = Rn sc (d + 5) 48 30 [some (.ref 67)] [] (K0, I2, J, R1 T) Q := fun Q => by
    rw [q1 Q, eI]
    simp (disch := first | assumption | omega | decide) only [x48_26, x48_27, x48_28, x48_29, ↓reduceIte, Option.toList, List.nil_append, List.cons_append, nI_add, pk_mul, n_and, n_or, n_xor, nI_leI, nI_ltI, nI_eq, n_z, uI_s, uI_n, bI_n0, bI_n1, bT, bF, if_true, if_false, not_true, not_false_eq_true, pk_div, pk_rem, Nat.reduceEqDiff, Nat.reduceLeDiff, Nat.reduceLT, Nat.reduceAdd, Nat.reduceMul, Nat.reduceSub, Nat.not_lt_zero, Nat.zero_le, reduceCtorEq, ite_self, n_rem, and_self, and_true, true_and, and_false, false_and, k1]
  unfold kdq nxq
  by_cases c : n ≤ q
  · rw [if_pos c, if_pos c]
    have c' : ¬ q < n := by omega
    refine ⟨uI I2 67 6 (nI 42), FrT_t f2 (FrT_u (by omega)), ⟨by rw [uI_n (by omega)]; exact a4, by rw [uI_n (by omega)]; exact a5, uI_s, fun h => by omega⟩, fun Q => ?_⟩
    rw [st Q]
    simp (disch := first | assumption | omega | decide) only [x48_30, x48_31, x48_32, x48_33, x48_34, x48_35, x48_36, x48_37, x48_38, x48_61, ↓reduceIte, Option.toList, List.nil_append, List.cons_append, nI_add, pk_mul, n_and, n_or, n_xor, nI_leI, nI_ltI, nI_eq, n_z, uI_s, uI_n, bI_n0, bI_n1, bT, bF, if_true, if_false, not_true, not_false_eq_true, pk_div, pk_rem, Nat.reduceEqDiff, Nat.reduceLeDiff, Nat.reduceLT, Nat.reduceAdd, Nat.reduceMul, Nat.reduceSub, Nat.not_lt_zero, Nat.zero_le, reduceCtorEq, ite_self, n_rem, and_self, and_true, true_and, and_false, false_and, a4, e1, c']
  · have c' : q < n := by omega
    obtain ⟨e2, b2⟩ := t2.2.2 q c'
    have q3 : q < 300 := by omega
    have sl := fun Q => sp_isLetter (sc := sc) (d := d + 4) (I := I2) (J := J) (T := T) (Q := Q) b2
    have sd := fun Q => sp_isDigit (sc := sc) (d := d + 4) (I := I2) (J := J) (T := T) (Q := Q) b2
    rw [if_neg c, if_neg c]
    by_cases c1 : isL (b q) = true
    · obtain ⟨I3, f3, b4, b5, b6, q3'⟩ := sp_nxword (sc := sc) (d := d) (J := J) (T := T) t2 g2 a4 a5
      rw [bI_t c1] at sl
      rw [if_pos c1, if_pos c1]
      refine ⟨I3, FrT_t f2 f3, ⟨b4, b5, b6, fun h => ?_⟩, fun Q => ?_⟩
      · unfold wK at h
        split at h <;> omega
      · rw [st Q]
        simp (disch := first | assumption | omega | decide) only [x48_30, x48_31, x48_32, x48_33, x48_34, x48_35, x48_36, x48_37, x48_38, x48_39, x48_40, x48_41, x48_42, x48_43, x48_44, x48_45, x48_46, x48_47, x48_48, x48_61, ↓reduceIte, Option.toList, List.nil_append, List.cons_append, nI_add, pk_mul, n_and, n_or, n_xor, nI_leI, nI_ltI, nI_eq, n_z, uI_s, uI_n, bI_n0, bI_n1, bT, bF, if_true, if_false, not_true, not_false_eq_true, pk_div, pk_rem, Nat.reduceEqDiff, Nat.reduceLeDiff, Nat.reduceLT, Nat.reduceAdd, Nat.reduceMul, Nat.reduceSub, Nat.not_lt_zero, Nat.zero_le, reduceCtorEq, ite_self, n_rem, and_self, and_true, true_and, and_false, false_and, a4, e1, c', e2, sl, q3']
    · rw [bI_f c1] at sl
      rw [if_neg c1, if_neg c1]
      by_cases c2 : isD (b q) = true
      · rw [bI_t c2] at sd
        obtain ⟨I3, eI3⟩ : ∃ X, X = uI (uI I2 67 6 (nI 41)) 67 7 (nI 0) := ⟨_, rfl⟩
        have f3 : FrT I2 I3 := by
          rw [eI3]
          exact FrT_t (FrT_u (by omega)) (FrT_u (by omega))
        obtain ⟨I4, f4, b4, b5, b6, b7, q4⟩ := lp_digit (sc := sc) (d := d + 3) (J := J) (T := T) (q := q) (n - q) q rfl (Nat.le_refl q) g2 I3 (TpC_c t2 f3) (by rw [eI3, uI_n (by omega), uI_n (by omega)]; exact a4) (by rw [eI3, uI_s, Nat.sub_self]; rfl)
        rw [if_pos c2, if_pos c2]
        refine ⟨I4, FrT_t f2 (FrT_t f3 f4), ⟨b4, by rw [b5, eI3, uI_n (by omega), uI_n (by omega)]; exact a5, by rw [b6, eI3, uI_n (by omega), uI_s], fun _ => b7⟩, fun Q => ?_⟩
        have q4' := q4
        rw [eI3] at q4'
        rw [st Q]
        simp (disch := first | assumption | omega | decide) only [x48_30, x48_31, x48_32, x48_33, x48_34, x48_35, x48_36, x48_37, x48_38, x48_39, x48_40, x48_41, x48_42, x48_43, x48_44, x48_45, x48_46, x48_47, x48_48, x48_49, x48_50, x48_51, x48_52, x48_53, x48_54, x48_55, x48_56, x48_57, x48_58, x48_61, x50_0, x50_1, x50_2, x50_3, x50_4, x50_5, ↓reduceIte, Option.toList, List.nil_append, List.cons_append, nI_add, pk_mul, n_and, n_or, n_xor, nI_leI, nI_ltI, nI_eq, n_z, uI_s, uI_n, bI_n0, bI_n1, bT, bF, if_true, if_false, not_true, not_false_eq_true, pk_div, pk_rem, Nat.reduceEqDiff, Nat.reduceLeDiff, Nat.reduceLT, Nat.reduceAdd, Nat.reduceMul, Nat.reduceSub, Nat.not_lt_zero, Nat.zero_le, reduceCtorEq, ite_self, n_rem, and_self, and_true, true_and, and_false, false_and, a4, e1, c', e2, sl, sd, q4']
      · rw [bI_f c2] at sd
        obtain ⟨I3, f3, b4, b5, b6, q3'⟩ := sp_sign (sc := sc) (d := d) (J := J) (T := T) t2 c' a4 a5
        rw [if_neg c2, if_neg c2]
        refine ⟨I3, FrT_t f2 f3, ⟨b4, b5, b6, fun h => ?_⟩, fun Q => ?_⟩
        · exfalso
          have : sK (b q) ≠ 41 := by
            unfold sK
            split <;> omega
          split at h
          · split at h <;> omega
          · exact this h
        · rw [st Q]
          simp (disch := first | assumption | omega | decide) only [x48_30, x48_31, x48_32, x48_33, x48_34, x48_35, x48_36, x48_37, x48_38, x48_39, x48_40, x48_41, x48_42, x48_43, x48_44, x48_45, x48_46, x48_47, x48_48, x48_49, x48_50, x48_51, x48_52, x48_53, x48_54, x48_55, x48_56, x48_57, x48_58, x48_59, x48_60, x48_61, ↓reduceIte, Option.toList, List.nil_append, List.cons_append, nI_add, pk_mul, n_and, n_or, n_xor, nI_leI, nI_ltI, nI_eq, n_z, uI_s, uI_n, bI_n0, bI_n1, bT, bF, if_true, if_false, not_true, not_false_eq_true, pk_div, pk_rem, Nat.reduceEqDiff, Nat.reduceLeDiff, Nat.reduceLT, Nat.reduceAdd, Nat.reduceMul, Nat.reduceSub, Nat.not_lt_zero, Nat.zero_le, reduceCtorEq, ite_self, n_rem, and_self, and_true, true_and, and_false, false_and, a4, e1, c', e2, sl, sd, q3']
end Next
