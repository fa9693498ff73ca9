/-! the class's reader: a choice, what is opened, a question; all depths -/
def MA (sc : Sc) (k t : Nat) (b : Nat → Nat) (n L meth : Nat) (loc : Lo) (r : Nat → Rs) : Prop := ∀ e, k ≤ e → MS sc e (some (47 + 5 * t)) t b n L meth loc r
section ReadE
variable {sc : Sc} {d : Nat} {t : Nat} {b : Nat → Nat} {n L o k : Nat} {one ask : Nat → Rs}
theorem ma_prd (ht : t < 4) (hk : 8 ≤ k) (h : MA sc k t b n L 40 [some (.ref 67), some (.int (nI o))] one) (ln : LnR b n one) : MA sc (k + 1) t b n L 39 [some (.ref 67), some (.int (nI o)), none, none] (prd b n one) := fun e he => by
  obtain ⟨d, rfl⟩ : ∃ d, e = d + 9 := ⟨e - 9, by omega⟩
  exact ms_prd ht (h (d + 8) (by omega)) ln
theorem ma_smr (ht : t < 4) (hk : 8 ≤ k) (h : MA sc k t b n L 40 [some (.ref 67), some (.int (nI o))] one) (ln : LnR b n one) : MA sc (k + 2) t b n L 38 [some (.ref 67), some (.int (nI o)), none, none] (smr b n one) := fun e he => by
  obtain ⟨d, rfl⟩ : ∃ d, e = d + 10 := ⟨e - 10, by omega⟩
  exact ms_smr ht (ma_prd ht hk h ln (d + 9) (by omega)) (ln_prd ln)
theorem ma_bth (ht : t < 4) (hk : 11 ≤ k) (h : MA sc k t b n L 46 [some (.ref 67), some (.int (nI o)), none] ask) (ln : LnR b n ask) : MA sc (k + 1) t b n L 45 [some (.ref 67), some (.int (nI o)), none] (bth b n ask) := fun e he => by
  obtain ⟨d, rfl⟩ : ∃ d, e = d + 12 := ⟨e - 12, by omega⟩
  exact ms_bth ht (h (d + 11) (by omega)) ln
theorem ma_eth (ht : t < 4) (hk : 11 ≤ k) (h : MA sc k t b n L 46 [some (.ref 67), some (.int (nI o)), none] ask) (ln : LnR b n ask) : MA sc (k + 2) t b n L 44 [some (.ref 67), some (.int (nI o)), none] (eth b n ask) := fun e he => by
  obtain ⟨d, rfl⟩ : ∃ d, e = d + 13 := ⟨e - 13, by omega⟩
  exact ms_eth ht (ma_bth ht hk h ln (d + 12) (by omega)) (ln_bth ln)
theorem ms_chc (ht : t < 4) (hk : 8 ≤ k) (hd : k ≤ d + 8) (h1 : MA sc k t b n L 40 [some (.ref 67), some (.int (nI o))] one) (h2 : MA sc (k + 3) t b n L 46 [some (.ref 67), some (.int (nI o)), none] ask) (l1 : LnR b n one) (l2 : LnR b n ask) {I : Nat → Nat → Int32} {J : Nat → Nat → Int64} {cs : List Nat} {p : Nat} (h : LvS I t b n L cs p) : ∃ I', FrZ t I I' ∧ StC I' t b n L (fin cs (chc b n one ask p)) ∧ ∀ Q, Rn sc (d + 14) 43 0 [some (.ref 67), some (.int (nI o)), none, none] [] (K0, I, J, R1 (some (47 + 5 * t))) Q = Q none (K0, I', J, R1 (some (47 + 5 * t))) := by
  have eE := ma_eth ht (show 11 ≤ k + 3 by omega) h2 l2 (d + 13) (by omega)
  have sS := ma_smr ht hk h1 l1 (d + 13) (by omega)
  have x22 := ms_expect (sc := sc) (d := d + 7) (T := some (47 + 5 * t)) (t := t) (b := b) (n := n) (L := L) (w := 22) (by decide)
  have x23 := ms_expect (sc := sc) (d := d + 7) (T := some (47 + 5 * t)) (t := t) (b := b) (n := n) (L := L) (w := 23) (by decide)
  have x24 := ms_expect (sc := sc) (d := d + 7) (T := some (47 + 5 * t)) (t := t) (b := b) (n := n) (L := L) (w := 24) (by decide)
  have ls := ln_smr l1
  have D41 : ∀ (f x a1 a2 : Nat) (I : Nat → Nat → Int32), a2 ≤ 300 → DdC I t f x → ∃ I', FrZ t I I' ∧ DdC I' t f x ∧ ∀ Q, Rn sc (d + 14) 43 41 [some (.ref 67), some (.int (nI o)), some (.int (nI a1)), some (.int (nI a2))] [] (K0, I, J, R1 (some (47 + 5 * t))) Q = Q none (K0, I', J, R1 (some (47 + 5 * t))) := by
    intro f x a1 a2 I ha hD
    obtain ⟨I1, f1, d1, q1⟩ := lndD (sc := sc) (d := d + 13) (J := J) (T := some (47 + 5 * t)) (a := a2) (w := 45) ht hD ha
    refine ⟨I1, f1, d1, fun Q => ?_⟩
    simp (disch := first | assumption | omega | decide) only [x43_41, x43_42, x43_43, x43_44, x43_46, x43_45r (a0 := 47 + 5 * t) (by omega) (kd_t ht), ↓reduceIte, Option.toList, List.nil_append, List.cons_append, nI_add, pk_mul, n_and, n_or, n_xor, nI_leI, nI_ltI, nI_eq, n_z, uI_s, uI_n, bI_n0, bI_n1, bT, bF, if_true, if_false, not_true, not_false_eq_true, pk_div, pk_rem, Nat.reduceEqDiff, Nat.reduceLeDiff, Nat.reduceLT, Nat.reduceAdd, Nat.reduceMul, Nat.reduceSub, Nat.not_lt_zero, Nat.zero_le, reduceCtorEq, ite_self, n_rem, and_self, and_true, true_and, and_false, false_and, valR, q1]
  have D38 : ∀ (f x a1 a2 : Nat) (I : Nat → Nat → Int32), a2 ≤ 300 → DdC I t f x → ∃ I', FrZ t I I' ∧ DdC I' t f x ∧ ∀ Q, Rn sc (d + 14) 43 38 [some (.ref 67), some (.int (nI o)), some (.int (nI a1)), some (.int (nI a2))] [] (K0, I, J, R1 (some (47 + 5 * t))) Q = Q none (K0, I', J, R1 (some (47 + 5 * t))) := by
    intro f x a1 a2 I ha hD
    obtain ⟨I1, f1, s1, q1⟩ := x24 I J (.inl (f, x)) hD
    obtain ⟨I2, f2, d2, q2⟩ := D41 f x a1 a2 I1 ha s1
    refine ⟨I2, FrZ_t f1 f2, d2, fun Q => ?_⟩
    rw [← q2 Q]
    simp (disch := first | assumption | omega | decide) only [x43_38, x43_39, x43_40, ↓reduceIte, Option.toList, List.nil_append, List.cons_append, nI_add, pk_mul, n_and, n_or, n_xor, nI_leI, nI_ltI, nI_eq, n_z, uI_s, uI_n, bI_n0, bI_n1, bT, bF, if_true, if_false, not_true, not_false_eq_true, pk_div, pk_rem, Nat.reduceEqDiff, Nat.reduceLeDiff, Nat.reduceLT, Nat.reduceAdd, Nat.reduceMul, Nat.reduceSub, Nat.not_lt_zero, Nat.zero_le, reduceCtorEq, ite_self, n_rem, and_self, and_true, true_and, and_false, false_and, q1]
  have D35 : ∀ (f x a1 a2 : Nat) (I : Nat → Nat → Int32), a2 ≤ 300 → DdC I t f x → ∃ I', FrZ t I I' ∧ DdC I' t f x ∧ ∀ Q, Rn sc (d + 14) 43 35 [some (.ref 67), some (.int (nI o)), some (.int (nI a1)), some (.int (nI a2))] [] (K0, I, J, R1 (some (47 + 5 * t))) Q = Q none (K0, I', J, R1 (some (47 + 5 * t))) := by
    intro f x a1 a2 I ha hD
    obtain ⟨I1, f1, s1, q1⟩ := sS I J (.inl (f, x)) hD
    obtain ⟨I2, f2, d2, q2⟩ := D38 f x a1 a2 I1 ha s1
    refine ⟨I2, FrZ_t f1 f2, d2, fun Q => ?_⟩
    rw [← q2 Q]
    simp (disch := first | assumption | omega | decide) only [x43_35, x43_36, x43_37, ↓reduceIte, Option.toList, List.nil_append, List.cons_append, nI_add, pk_mul, n_and, n_or, n_xor, nI_leI, nI_ltI, nI_eq, n_z, uI_s, uI_n, bI_n0, bI_n1, bT, bF, if_true, if_false, not_true, not_false_eq_true, pk_div, pk_rem, Nat.reduceEqDiff, Nat.reduceLeDiff, Nat.reduceLT, Nat.reduceAdd, Nat.reduceMul, Nat.reduceSub, Nat.not_lt_zero, Nat.zero_le, reduceCtorEq, ite_self, n_rem, and_self, and_true, true_and, and_false, false_and, q1]
  have D21 : ∀ (f x a1 : Nat) (u3 : Option Value) (I : Nat → Nat → Int32), a1 ≤ 300 → DdC I t f x → ∃ I', FrZ t I I' ∧ DdC I' t f x ∧ ∀ Q, Rn sc (d + 14) 43 21 [some (.ref 67), some (.int (nI o)), some (.int (nI a1)), u3] [] (K0, I, J, R1 (some (47 + 5 * t))) Q = Q none (K0, I', J, R1 (some (47 + 5 * t))) := by
    intro f x a1 u3 I ha hD
    obtain ⟨u, hu, e1⟩ := hD.2.2.2.2.1
    obtain ⟨I1, f1, d1, q1⟩ := emD (sc := sc) (d := d + 13) (J := J) (T := some (47 + 5 * t)) (u := 0) (w := 45) (v := 0) ht hD (by omega)
    obtain ⟨I2, f2, d2, q2⟩ := lndD (sc := sc) (d := d + 13) (J := J) (T := some (47 + 5 * t)) (a := a1) (w := 46) ht d1 ha
    obtain ⟨I3, f3, d3, q3⟩ := D35 f x a1 u I2 hu d2
    refine ⟨I3, FrZ_t f1 (FrZ_t f2 f3), d3, fun Q => ?_⟩
    rw [← q3 Q]
    simp (disch := first | assumption | omega | decide) only [x43_21, x43_22, x43_24, x43_25, x43_26, x43_27, x43_28, x43_30, x43_31, x43_32, x43_33, x43_23 (a := 47 + 5 * t) (kd_t ht) (by omega), x43_29r (a0 := 47 + 5 * t) (by omega) (kd_t ht), x43_34r (a0 := 47 + 5 * t) (by omega) (kd_t ht), ↓reduceIte, Option.toList, List.nil_append, List.cons_append, nI_add, pk_mul, n_and, n_or, n_xor, nI_leI, nI_ltI, nI_eq, n_z, uI_s, uI_n, bI_n0, bI_n1, bT, bF, if_true, if_false, not_true, not_false_eq_true, pk_div, pk_rem, Nat.reduceEqDiff, Nat.reduceLeDiff, Nat.reduceLT, Nat.reduceAdd, Nat.reduceMul, Nat.reduceSub, Nat.not_lt_zero, Nat.zero_le, reduceCtorEq, ite_self, n_rem, and_self, and_true, true_and, and_false, false_and, valR, e1, q1, q2]
  have D18 : ∀ (f x a1 : Nat) (u3 : Option Value) (I : Nat → Nat → Int32), a1 ≤ 300 → DdC I t f x → ∃ I', FrZ t I I' ∧ DdC I' t f x ∧ ∀ Q, Rn sc (d + 14) 43 18 [some (.ref 67), some (.int (nI o)), some (.int (nI a1)), u3] [] (K0, I, J, R1 (some (47 + 5 * t))) Q = Q none (K0, I', J, R1 (some (47 + 5 * t))) := by
    intro f x a1 u3 I ha hD
    obtain ⟨I1, f1, s1, q1⟩ := x23 I J (.inl (f, x)) hD
    obtain ⟨I2, f2, d2, q2⟩ := D21 f x a1 u3 I1 ha s1
    refine ⟨I2, FrZ_t f1 f2, d2, fun Q => ?_⟩
    rw [← q2 Q]
    simp (disch := first | assumption | omega | decide) only [x43_18, x43_19, x43_20, ↓reduceIte, Option.toList, List.nil_append, List.cons_append, nI_add, pk_mul, n_and, n_or, n_xor, nI_leI, nI_ltI, nI_eq, n_z, uI_s, uI_n, bI_n0, bI_n1, bT, bF, if_true, if_false, not_true, not_false_eq_true, pk_div, pk_rem, Nat.reduceEqDiff, Nat.reduceLeDiff, Nat.reduceLT, Nat.reduceAdd, Nat.reduceMul, Nat.reduceSub, Nat.not_lt_zero, Nat.zero_le, reduceCtorEq, ite_self, n_rem, and_self, and_true, true_and, and_false, false_and, q1]
  have D6 : ∀ (f x : Nat) (u2 u3 : Option Value) (I : Nat → Nat → Int32), DdC I t f x → ∃ I', FrZ t I I' ∧ DdC I' t f x ∧ ∀ Q, Rn sc (d + 14) 43 6 [some (.ref 67), some (.int (nI o)), u2, u3] [] (K0, I, J, R1 (some (47 + 5 * t))) Q = Q none (K0, I', J, R1 (some (47 + 5 * t))) := by
    intro f x u2 u3 I hD
    obtain ⟨u, hu, e1⟩ := hD.2.2.2.2.1
    obtain ⟨I1, f1, d1, q1⟩ := emD (sc := sc) (d := d + 13) (J := J) (T := some (47 + 5 * t)) (u := 0) (w := 46) (v := 0) ht hD (by omega)
    obtain ⟨I2, f2, s2, q2⟩ := sS I1 J (.inl (f, x)) d1
    obtain ⟨I3, f3, d3, q3⟩ := D18 f x u u3 I2 hu s2
    refine ⟨I3, FrZ_t f1 (FrZ_t f2 f3), d3, fun Q => ?_⟩
    rw [← q3 Q]
    simp (disch := first | assumption | omega | decide) only [x43_6, x43_7, x43_9, x43_10, x43_11, x43_12, x43_13, x43_15, x43_16, x43_17, x43_8 (a := 47 + 5 * t) (kd_t ht) (by omega), x43_14r (a0 := 47 + 5 * t) (by omega) (kd_t ht), ↓reduceIte, Option.toList, List.nil_append, List.cons_append, nI_add, pk_mul, n_and, n_or, n_xor, nI_leI, nI_ltI, nI_eq, n_z, uI_s, uI_n, bI_n0, bI_n1, bT, bF, if_true, if_false, not_true, not_false_eq_true, pk_div, pk_rem, Nat.reduceEqDiff, Nat.reduceLeDiff, Nat.reduceLT, Nat.reduceAdd, Nat.reduceMul, Nat.reduceSub, Nat.not_lt_zero, Nat.zero_le, reduceCtorEq, ite_self, n_rem, and_self, and_true, true_and, and_false, false_and, valR, e1, q1, q2]
  obtain ⟨I1, f1, s1, q1⟩ := eE I J (.inr (cs, p)) h
  obtain ⟨I2, f2, s2, q2⟩ := x22 I1 J _ s1
  have st2 : ∀ Q, Rn sc (d + 14) 43 0 [some (.ref 67), some (.int (nI o)), none, none] [] (K0, I, J, R1 (some (47 + 5 * t))) Q = Rn sc (d + 14) 43 6 [some (.ref 67), some (.int (nI o)), none, none] [] (K0, I2, J, R1 (some (47 + 5 * t))) Q := fun Q => by
    simp (disch := first | assumption | omega | decide) only [x43_0, x43_1, x43_2, x43_3, x43_4, x43_5, ↓reduceIte, Option.toList, List.nil_append, List.cons_append, nI_add, pk_mul, n_and, n_or, n_xor, nI_leI, nI_ltI, nI_eq, n_z, uI_s, uI_n, bI_n0, bI_n1, bT, bF, if_true, if_false, not_true, not_false_eq_true, pk_div, pk_rem, Nat.reduceEqDiff, Nat.reduceLeDiff, Nat.reduceLT, Nat.reduceAdd, Nat.reduceMul, Nat.reduceSub, Nat.not_lt_zero, Nat.zero_le, reduceCtorEq, ite_self, n_rem, and_self, and_true, true_and, and_false, false_and, q1, q2]
  have n3 := h.1.1
  have f12 := FrZ_t f1 f2
  rw [ap_r] at s1 s2
  unfold chc
  rcases e1 : eth b n ask p with ⟨f, x⟩ | ⟨c, p1⟩
  · rw [e1, fin_l, ap_l] at s2
    obtain ⟨I3, f3, d3, q3⟩ := D6 f x none none I2 s2
    exact ⟨I3, FrZ_t f12 f3, d3, fun Q => (st2 Q).trans (q3 Q)⟩
  · rw [e1, fin_r, fin_x] at s2
    rw [e1, fin_r] at s1
    have s1 : LvS I1 t b n L (cs ++ c.1) p1 := s1
    rw [bnd_r]
    rcases e2 : xpt b n 22 c p1 with ⟨f, x⟩ | ⟨c', p2⟩
    · rw [e2, fin_l] at s2
      obtain ⟨I3, f3, d3, q3⟩ := D6 f x none none I2 s2
      exact ⟨I3, FrZ_t f12 f3, d3, fun Q => (st2 Q).trans (q3 Q)⟩
    · obtain ⟨x0, -, x3, x4⟩ := ln_x s1.2.1 (by decide) e2
      subst x0
      rw [e2, fin_r] at s2
      have s2 : LvS I2 t b n L (cs ++ c'.1) p2 := s2
      have g1 := s1.2.2.2.2.2.2.1
      have g2 := (tS_le (b := b) x3).2
      obtain ⟨a1, ea1⟩ : ∃ a, a = (cs ++ c'.1).length := ⟨_, rfl⟩
      rw [← ea1] at g1
      have u2 := s2.2.2.2.2.2.1.1
      rw [← ea1] at u2
      obtain ⟨I3, f3, c3, q3⟩ := emL (sc := sc) (d := d + 13) (J := J) (T := some (47 + 5 * t)) (w := 46) (v := 0) ht s2.2.2.2.2.2.1 (by rw [← ea1]; omega) (by omega)
      have lv3 : LvS I3 t b n L (cs ++ c'.1 ++ [46]) p2 := LvS_e s2 f3 ht c3 (by rw [List.length_append, List.length_cons, List.length_nil, ← ea1]; omega)
      obtain ⟨I4, f4, s4, q4⟩ := sS I3 J (.inr (cs ++ c'.1 ++ [46], p2)) lv3
      have st4 : ∀ Q, Rn sc (d + 14) 43 0 [some (.ref 67), some (.int (nI o)), none, none] [] (K0, I, J, R1 (some (47 + 5 * t))) Q = Rn sc (d + 14) 43 18 [some (.ref 67), some (.int (nI o)), some (.int (nI a1)), none] [] (K0, I4, J, R1 (some (47 + 5 * t))) Q := fun Q => by
        rw [st2 Q]
        simp (disch := first | assumption | omega | decide) only [x43_6, x43_7, x43_9, x43_10, x43_11, x43_12, x43_13, x43_15, x43_16, x43_17, x43_8 (a := 47 + 5 * t) (kd_t ht) (by omega), x43_14r (a0 := 47 + 5 * t) (by omega) (kd_t ht), ↓reduceIte, Option.toList, List.nil_append, List.cons_append, nI_add, pk_mul, n_and, n_or, n_xor, nI_leI, nI_ltI, nI_eq, n_z, uI_s, uI_n, bI_n0, bI_n1, bT, bF, if_true, if_false, not_true, not_false_eq_true, pk_div, pk_rem, Nat.reduceEqDiff, Nat.reduceLeDiff, Nat.reduceLT, Nat.reduceAdd, Nat.reduceMul, Nat.reduceSub, Nat.not_lt_zero, Nat.zero_le, reduceCtorEq, ite_self, n_rem, and_self, and_true, true_and, and_false, false_and, valR, u2, q3, q4]
      have f14 : FrZ t I I4 := FrZ_t f12 (FrZ_t (fun c k a1 a2 a3 => f3 c k a2 a3) f4)
      rw [ap_r] at s4
      rw [bnd_r]
      rcases e3 : smr b n one p2 with ⟨f, x⟩ | ⟨a, p3⟩
      · rw [e3, fin_l] at s4
        obtain ⟨I5, f5, d5, q5⟩ := D18 f x a1 none I4 (by omega) s4
        exact ⟨I5, FrZ_t f14 f5, d5, fun Q => (st4 Q).trans (q5 Q)⟩
      · rw [e3, fin_r] at s4
        obtain ⟨b1, b2, b3⟩ := ls _ x3 a p3 e3
        obtain ⟨I5, f5, s5, q5⟩ := x23 I4 J _ s4
        rw [fin_x] at s5
        have st5 : ∀ Q, Rn sc (d + 14) 43 0 [some (.ref 67), some (.int (nI o)), none, none] [] (K0, I, J, R1 (some (47 + 5 * t))) Q = Rn sc (d + 14) 43 21 [some (.ref 67), some (.int (nI o)), some (.int (nI a1)), none] [] (K0, I5, J, R1 (some (47 + 5 * t))) Q := fun Q => by
          rw [st4 Q]
          simp (disch := first | assumption | omega | decide) only [x43_18, x43_19, x43_20, ↓reduceIte, Option.toList, List.nil_append, List.cons_append, nI_add, pk_mul, n_and, n_or, n_xor, nI_leI, nI_ltI, nI_eq, n_z, uI_s, uI_n, bI_n0, bI_n1, bT, bF, if_true, if_false, not_true, not_false_eq_true, pk_div, pk_rem, Nat.reduceEqDiff, Nat.reduceLeDiff, Nat.reduceLT, Nat.reduceAdd, Nat.reduceMul, Nat.reduceSub, Nat.not_lt_zero, Nat.zero_le, reduceCtorEq, ite_self, n_rem, and_self, and_true, true_and, and_false, false_and, q5]
        have f15 := FrZ_t f14 f5
        rw [bnd_r]
        rcases e4 : xpt b n 23 a p3 with ⟨f, x⟩ | ⟨a', p4⟩
        · rw [e4, fin_l] at s5
          obtain ⟨I6, f6, d6, q6⟩ := D21 f x a1 none I5 (by omega) s5
          exact ⟨I6, FrZ_t f15 f6, d6, fun Q => (st5 Q).trans (q6 Q)⟩
        · obtain ⟨y0, -, y3, y4⟩ := ln_x b1 (by decide) e4
          subst y0
          rw [e4, fin_r] at s5
          have s5 : LvS I5 t b n L (cs ++ c'.1 ++ [46] ++ a'.1) p4 := s5
          have g4 := (tS_le (b := b) y3).2
          obtain ⟨a2, ea2⟩ : ∃ a, a = (cs ++ c'.1 ++ [46] ++ a'.1).length := ⟨_, rfl⟩
          have ea3 : a2 = a1 + 1 + a'.1.length := by
            rw [ea2, List.length_append, List.length_append, List.length_cons, List.length_nil, ← ea1]
          have u5 := s5.2.2.2.2.2.1.1
          rw [← ea2] at u5
          obtain ⟨I6, f6, c6, q6⟩ := emL (sc := sc) (d := d + 13) (J := J) (T := some (47 + 5 * t)) (w := 45) (v := 0) ht s5.2.2.2.2.2.1 (by rw [← ea2]; omega) (by omega)
          have len6 : (cs ++ c'.1 ++ [46] ++ a'.1 ++ [45 + 0 * 64]).length = a2 + 1 := by
            rw [List.length_append, ← ea2, List.length_cons, List.length_nil]
          obtain ⟨I7, f7, c7, q7⟩ := lndL (sc := sc) (d := d + 13) (J := J) (T := some (47 + 5 * t)) (a := a1) (w := 46) ht c6 (by rw [len6]; omega) (by rw [len6]; omega)
          have ec7 : (cs ++ c'.1 ++ [46] ++ a'.1 ++ [45 + 0 * 64]).set a1 (46 + ((cs ++ c'.1 ++ [46] ++ a'.1 ++ [45 + 0 * 64]).length - a1 - 1) * 64) = cs ++ c'.1 ++ [46 + (a'.1.length + 1) * 64] ++ a'.1 ++ [45] := by
            rw [len6, show a2 + 1 - a1 - 1 = a'.1.length + 1 by omega]
            have e9 : cs ++ c'.1 ++ [46] ++ a'.1 ++ [45 + 0 * 64] = (cs ++ c'.1) ++ 46 :: (a'.1 ++ [45]) := by
              simp only [List.append_assoc, List.cons_append, List.nil_append, Nat.zero_mul, Nat.add_zero]
            rw [e9, ea1, st_a]
            simp only [List.append_assoc, List.cons_append, List.nil_append]
          rw [ec7] at c7
          obtain ⟨c9, ec9⟩ : ∃ x, x = cs ++ c'.1 ++ [46 + (a'.1.length + 1) * 64] ++ a'.1 ++ [45] := ⟨_, rfl⟩
          rw [← ec9] at c7
          have len9 : c9.length = a2 + 1 := by
            rw [ec9, List.length_append, List.length_append, List.length_append, List.length_cons, List.length_nil, List.length_cons, List.length_nil, ← ea1]
            omega
          have lv7 : LvS I7 t b n L c9 p4 := LvS_e s5 (fun c k a b => (f7 c k a b).trans (f6 c k a b)) ht c7 (by rw [len9]; omega)
          obtain ⟨I8, f8, s8, q8⟩ := sS I7 J (.inr (c9, p4)) lv7
          have st8 : ∀ Q, Rn sc (d + 14) 43 0 [some (.ref 67), some (.int (nI o)), none, none] [] (K0, I, J, R1 (some (47 + 5 * t))) Q = Rn sc (d + 14) 43 38 [some (.ref 67), some (.int (nI o)), some (.int (nI a1)), some (.int (nI a2))] [] (K0, I8, J, R1 (some (47 + 5 * t))) Q := fun Q => by
            rw [st5 Q]
            simp (disch := first | assumption | omega | decide) only [x43_21, x43_22, x43_24, x43_25, x43_26, x43_27, x43_28, x43_30, x43_31, x43_32, x43_33, x43_35, x43_36, x43_37, x43_23 (a := 47 + 5 * t) (kd_t ht) (by omega), x43_29r (a0 := 47 + 5 * t) (by omega) (kd_t ht), x43_34r (a0 := 47 + 5 * t) (by omega) (kd_t ht), ↓reduceIte, Option.toList, List.nil_append, List.cons_append, nI_add, pk_mul, n_and, n_or, n_xor, nI_leI, nI_ltI, nI_eq, n_z, uI_s, uI_n, bI_n0, bI_n1, bT, bF, if_true, if_false, not_true, not_false_eq_true, pk_div, pk_rem, Nat.reduceEqDiff, Nat.reduceLeDiff, Nat.reduceLT, Nat.reduceAdd, Nat.reduceMul, Nat.reduceSub, Nat.not_lt_zero, Nat.zero_le, reduceCtorEq, ite_self, n_rem, and_self, and_true, true_and, and_false, false_and, valR, u5, q6, q7, q8]
          have f18 : FrZ t I I8 := FrZ_t f15 (FrZ_t (fun c k a1 a2 a3 => (f7 c k a2 a3).trans (f6 c k a2 a3)) f8)
          rw [ap_r] at s8
          rw [bnd_r]
          rcases e5 : smr b n one p4 with ⟨f, x⟩ | ⟨e, p5⟩
          · rw [e5, fin_l] at s8
            obtain ⟨I9, f9, d9, q9⟩ := D38 f x a1 a2 I8 (by omega) s8
            exact ⟨I9, FrZ_t f18 f9, d9, fun Q => (st8 Q).trans (q9 Q)⟩
          · rw [e5, fin_r] at s8
            obtain ⟨v1, v2, v3⟩ := ls _ y3 e p5 e5
            obtain ⟨I9, f9, s9, q9⟩ := x24 I8 J _ s8
            rw [fin_x] at s9
            have st9 : ∀ Q, Rn sc (d + 14) 43 0 [some (.ref 67), some (.int (nI o)), none, none] [] (K0, I, J, R1 (some (47 + 5 * t))) Q = Rn sc (d + 14) 43 41 [some (.ref 67), some (.int (nI o)), some (.int (nI a1)), some (.int (nI a2))] [] (K0, I9, J, R1 (some (47 + 5 * t))) Q := fun Q => by
              rw [st8 Q]
              simp (disch := first | assumption | omega | decide) only [x43_38, x43_39, x43_40, ↓reduceIte, Option.toList, List.nil_append, List.cons_append, nI_add, pk_mul, n_and, n_or, n_xor, nI_leI, nI_ltI, nI_eq, n_z, uI_s, uI_n, bI_n0, bI_n1, bT, bF, if_true, if_false, not_true, not_false_eq_true, pk_div, pk_rem, Nat.reduceEqDiff, Nat.reduceLeDiff, Nat.reduceLT, Nat.reduceAdd, Nat.reduceMul, Nat.reduceSub, Nat.not_lt_zero, Nat.zero_le, reduceCtorEq, ite_self, n_rem, and_self, and_true, true_and, and_false, false_and, q9]
            have f19 := FrZ_t f18 f9
            rw [bnd_r]
            rcases e6 : xpt b n 24 e p5 with ⟨f, x⟩ | ⟨e', p6⟩
            · rw [e6, fin_l] at s9
              obtain ⟨I10, f10, d10, q10⟩ := D41 f x a1 a2 I9 (by omega) s9
              exact ⟨I10, FrZ_t f19 f10, d10, fun Q => (st9 Q).trans (q10 Q)⟩
            · obtain ⟨w0, -, w3, w4⟩ := ln_x v1 (by decide) e6
              subst w0
              rw [e6, fin_r] at s9
              have s9 : LvS I9 t b n L (c9 ++ e'.1) p6 := s9
              have g6 := (tS_le (b := b) w3).2
              have g7 := s9.2.2.2.2.2.2.1
              have len10 : (c9 ++ e'.1).length = a2 + 1 + e'.1.length := by rw [List.length_append, len9]
              obtain ⟨I10, f10, c10, q10⟩ := lndL (sc := sc) (d := d + 13) (J := J) (T := some (47 + 5 * t)) (a := a2) (w := 45) ht s9.2.2.2.2.2.1 (by omega) (by omega)
              have ec10 : (c9 ++ e'.1).set a2 (45 + ((c9 ++ e'.1).length - a2 - 1) * 64) = cs ++ (cIf c' a' e').1 := by
                rw [len10, show a2 + 1 + e'.1.length - a2 - 1 = e'.1.length by omega]
                have e9 : c9 ++ e'.1 = (cs ++ c'.1 ++ [46 + (a'.1.length + 1) * 64] ++ a'.1) ++ 45 :: e'.1 := by
                  rw [ec9]
                  simp only [List.append_assoc, List.cons_append, List.nil_append]
                have e8 : a2 = (cs ++ c'.1 ++ [46 + (a'.1.length + 1) * 64] ++ a'.1).length := by
                  rw [List.length_append, List.length_append, List.length_cons, List.length_nil, ← ea1]
                  omega
                rw [e9, e8, st_a]
                unfold cIf
                simp only [List.append_assoc, List.cons_append, List.nil_append]
              rw [ec10] at c10
              rw [bnd_r, fin_r]
              refine ⟨I10, FrZ_t f19 (fun c k a1 a2 a3 => f10 c k a2 a3), LvS_e s9 f10 ht c10 ?_, fun Q => ?_⟩
              · rw [← ec10, List.length_set]
                exact g7
              · rw [st9 Q]
                simp (disch := first | assumption | omega | decide) only [x43_41, x43_42, x43_43, x43_44, x43_46, x43_45r (a0 := 47 + 5 * t) (by omega) (kd_t ht), ↓reduceIte, Option.toList, List.nil_append, List.cons_append, nI_add, pk_mul, n_and, n_or, n_xor, nI_leI, nI_ltI, nI_eq, n_z, uI_s, uI_n, bI_n0, bI_n1, bT, bF, if_true, if_false, not_true, not_false_eq_true, pk_div, pk_rem, Nat.reduceEqDiff, Nat.reduceLeDiff, Nat.reduceLT, Nat.reduceAdd, Nat.reduceMul, Nat.reduceSub, Nat.not_lt_zero, Nat.zero_le, reduceCtorEq, ite_self, n_rem, and_self, and_true, true_and, and_false, false_and, valR, q10]
theorem op_S (ht : t < 4) (hk : 8 ≤ k) (hd : k ≤ d + 8) (h1 : MA sc k t b n L 40 [some (.ref 67), some (.int (nI o))] one) (h2 : MA sc (k + 3) t b n L 46 [some (.ref 67), some (.int (nI o)), none] ask) (l1 : LnR b n one) (l2 : LnR b n ask) (ho : o ≤ 8) : OpS sc (d + 15) t b n L o (opnS b n one ask) := by
  intro I J cs p h hK
  have sS := ma_smr ht hk h1 l1 (d + 14) (by omega)
  have oO := h1 (d + 14) (by omega)
  have x37 := ms_expect (sc := sc) (d := d + 8) (T := some (47 + 5 * t)) (t := t) (b := b) (n := n) (L := L) (w := 37) (by decide)
  have x18 := ms_expect (sc := sc) (d := d + 8) (T := some (47 + 5 * t)) (t := t) (b := b) (n := n) (L := L) (w := 18) (by decide)
  have k6 := h.2.2.1.2.2.1
  have kl := tK_lt (b := b) (n := n) (p := p)
  have hl := h.2.2.2.2.2.2.1
  have n3 := h.1.1
  obtain ⟨tk1, tk2⟩ := tk_st h.2.1 (show tK b n p ≠ 42 by omega)
  obtain ⟨I1, f1, s1, q1⟩ := nxL (sc := sc) (d := d + 9) (J := J) (T := some (47 + 5 * t)) h
  have st1 : ∀ Q, Rn sc (d + 15) 42 0 [some (.ref 67), some (.int (nI o)), none] [] (K0, I, J, R1 (some (47 + 5 * t))) Q = Rn sc (d + 15) 42 12 [some (.ref 67), some (.int (nI o)), some (.int (nI (tK b n p)))] [] (K0, I1, J, R1 (some (47 + 5 * t))) Q := fun Q => by
    simp (disch := first | assumption | omega | decide) only [x42_0, x42_1, x42_2, x42_3, x42_4, x42_5, x42_6, x42_7, x42_8, x42_9, x42_10, x42_11, ↓reduceIte, Option.toList, List.nil_append, List.cons_append, nI_add, pk_mul, n_and, n_or, n_xor, nI_leI, nI_ltI, nI_eq, n_z, uI_s, uI_n, bI_n0, bI_n1, bT, bF, if_true, if_false, not_true, not_false_eq_true, pk_div, pk_rem, Nat.reduceEqDiff, Nat.reduceLeDiff, Nat.reduceLT, Nat.reduceAdd, Nat.reduceMul, Nat.reduceSub, Nat.not_lt_zero, Nat.zero_le, reduceCtorEq, ite_self, n_rem, and_self, and_true, true_and, and_false, false_and, k6, ho, q1]
  unfold opnS
  by_cases c1 : tK b n p = 36
  · rw [if_pos c1]
    obtain ⟨I2, f2, s2, q2⟩ := sS I1 J (.inr (cs, tX b n p)) s1
    obtain ⟨I3, f3, s3, q3⟩ := x37 I2 J _ s2
    refine ⟨I3, FrZ_t f1 (FrZ_t f2 f3), ?_, fun Q => ?_⟩
    · rw [ap_r] at s3
      rcases e1 : smr b n one (tX b n p) with ⟨f, x⟩ | ⟨c, p1⟩
      · rw [e1, fin_l, ap_l] at s3
        exact s3
      · rw [e1, fin_r, fin_x] at s3
        exact s3
    · rw [st1 Q, c1]
      simp (disch := first | assumption | omega | decide) only [x42_12, x42_13, x42_14, x42_15, x42_16, x42_17, x42_18, x42_19, x42_20, x42_21, x42_51, ↓reduceIte, Option.toList, List.nil_append, List.cons_append, nI_add, pk_mul, n_and, n_or, n_xor, nI_leI, nI_ltI, nI_eq, n_z, uI_s, uI_n, bI_n0, bI_n1, bT, bF, if_true, if_false, not_true, not_false_eq_true, pk_div, pk_rem, Nat.reduceEqDiff, Nat.reduceLeDiff, Nat.reduceLT, Nat.reduceAdd, Nat.reduceMul, Nat.reduceSub, Nat.not_lt_zero, Nat.zero_le, reduceCtorEq, ite_self, n_rem, and_self, and_true, true_and, and_false, false_and, q2, q3]
  · rw [if_neg c1]
    by_cases c2 : tK b n p = 21
    · rw [if_pos c2]
      obtain ⟨I2, f2, s2, q2⟩ := ms_chc (sc := sc) (d := d) ht hk hd h1 h2 l1 l2 (J := J) s1
      refine ⟨I2, FrZ_t f1 f2, s2, fun Q => ?_⟩
      rw [st1 Q, c2]
      simp (disch := first | assumption | omega | decide) only [x42_12, x42_13, x42_14, x42_22, x42_23, x42_24, x42_25, x42_26, x42_27, x42_28, x42_51, ↓reduceIte, Option.toList, List.nil_append, List.cons_append, nI_add, pk_mul, n_and, n_or, n_xor, nI_leI, nI_ltI, nI_eq, n_z, uI_s, uI_n, bI_n0, bI_n1, bT, bF, if_true, if_false, not_true, not_false_eq_true, pk_div, pk_rem, Nat.reduceEqDiff, Nat.reduceLeDiff, Nat.reduceLT, Nat.reduceAdd, Nat.reduceMul, Nat.reduceSub, Nat.not_lt_zero, Nat.zero_le, reduceCtorEq, ite_self, n_rem, and_self, and_true, true_and, and_false, false_and, q2]
    · rw [if_neg c2]
      obtain ⟨I2, f2, s2, q2⟩ := oO I1 J (.inr (cs, tX b n p)) s1
      rw [ap_r] at s2
      by_cases c3 : tK b n p = 19
      · rw [if_pos c3]
        obtain ⟨I3, f3, s3, q3⟩ := x18 I2 J _ s2
        obtain ⟨I4, f4, s4, q4⟩ := oO I3 J _ s3
        have st4 : ∀ Q, Rn sc (d + 15) 42 0 [some (.ref 67), some (.int (nI o)), none] [] (K0, I, J, R1 (some (47 + 5 * t))) Q = Rn sc (d + 15) 42 41 [some (.ref 67), some (.int (nI o)), some (.int (nI 19))] [] (K0, I4, J, R1 (some (47 + 5 * t))) Q := fun Q => by
          rw [st1 Q, c3]
          simp (disch := first | assumption | omega | decide) only [x42_12, x42_13, x42_14, x42_22, x42_23, x42_24, x42_29, x42_30, x42_31, x42_32, x42_33, x42_34, x42_35, x42_36, x42_37, x42_38, x42_39, x42_40, ↓reduceIte, Option.toList, List.nil_append, List.cons_append, nI_add, pk_mul, n_and, n_or, n_xor, nI_leI, nI_ltI, nI_eq, n_z, uI_s, uI_n, bI_n0, bI_n1, bT, bF, if_true, if_false, not_true, not_false_eq_true, pk_div, pk_rem, Nat.reduceEqDiff, Nat.reduceLeDiff, Nat.reduceLT, Nat.reduceAdd, Nat.reduceMul, Nat.reduceSub, Nat.not_lt_zero, Nat.zero_le, reduceCtorEq, ite_self, n_rem, and_self, and_true, true_and, and_false, false_and, q2, q3, q4]
        have f14 := FrZ_t f1 (FrZ_t f2 (FrZ_t f3 f4))
        have dd : ∀ f x, DdC I4 t f x → ∃ I', FrZ t I I' ∧ DdC I' t f x ∧ ∀ Q, Rn sc (d + 15) 42 0 [some (.ref 67), some (.int (nI o)), none] [] (K0, I, J, R1 (some (47 + 5 * t))) Q = Q none (K0, I', J, R1 (some (47 + 5 * t))) := fun f x hD => by
          obtain ⟨I5, f5, d5, q5⟩ := emD (sc := sc) (d := d + 14) (J := J) (T := some (47 + 5 * t)) (u := 0) (w := 19) (v := 0) ht hD (by omega)
          refine ⟨I5, FrZ_t f14 f5, d5, fun Q => ?_⟩
          rw [st4 Q]
          simp (disch := first | assumption | omega | decide) only [x42_41, x42_42, x42_43, x42_44, x42_45, x42_46, x42_47, x42_48, x42_49, x42_51, x42_50r (a0 := 47 + 5 * t) (by omega) (kd_t ht), ↓reduceIte, Option.toList, List.nil_append, List.cons_append, nI_add, pk_mul, n_and, n_or, n_xor, nI_leI, nI_ltI, nI_eq, n_z, uI_s, uI_n, bI_n0, bI_n1, bT, bF, if_true, if_false, not_true, not_false_eq_true, pk_div, pk_rem, Nat.reduceEqDiff, Nat.reduceLeDiff, Nat.reduceLT, Nat.reduceAdd, Nat.reduceMul, Nat.reduceSub, Nat.not_lt_zero, Nat.zero_le, reduceCtorEq, ite_self, n_rem, and_self, and_true, true_and, and_false, false_and, valR, q5]
        rcases e1 : one (tX b n p) with ⟨f, x⟩ | ⟨a, p1⟩
        · rw [e1, fin_l, ap_l, ap_l] at s4
          exact dd f x s4
        · rw [e1, fin_r, fin_x] at s4
          obtain ⟨b1, b2, b3⟩ := l1 _ tk1 a p1 e1
          rw [bnd_r]
          rcases e2 : xpt b n 18 a p1 with ⟨f, x⟩ | ⟨a', p2⟩
          · rw [e2, fin_l, ap_l] at s4
            exact dd f x s4
          · obtain ⟨y0, -, y3, y4⟩ := ln_x b1 (by decide) e2
            subst y0
            rw [e2, fin_r, ap_r] at s4
            rw [bnd_r]
            rcases e3 : one p2 with ⟨f, x⟩ | ⟨c, p3⟩
            · rw [e3, fin_l] at s4
              exact dd f x s4
            · rw [e3, fin_r] at s4
              have s4 : LvS I4 t b n L (cs ++ a'.1 ++ c.1) p3 := s4
              obtain ⟨v1, v2, v3⟩ := l1 _ y3 c p3 e3
              have g6 := (tS_le (b := b) v1).2
              have le : (cs ++ a'.1 ++ c.1).length + 1 ≤ tS b n p3 := by
                rw [List.length_append, List.length_append]
                omega
              obtain ⟨I5, f5, c5, q5⟩ := emL (sc := sc) (d := d + 14) (J := J) (T := some (47 + 5 * t)) (w := 19) (v := 0) ht s4.2.2.2.2.2.1 (by omega) (by omega)
              rw [Nat.zero_mul, Nat.add_zero] at c5
              have ec : cs ++ a'.1 ++ c.1 ++ [19] = cs ++ (cMn a' c).1 := by
                unfold cMn
                simp only [List.append_assoc]
              rw [ec] at c5
              rw [bnd_r, fin_r]
              refine ⟨I5, FrZ_t f14 (fun c k a1 a2 a3 => f5 c k a2 a3), LvS_e s4 f5 ht c5 (by rw [← ec, List.length_append]; exact le), fun Q => ?_⟩
              rw [st4 Q]
              simp (disch := first | assumption | omega | decide) only [x42_41, x42_42, x42_43, x42_44, x42_45, x42_46, x42_47, x42_48, x42_49, x42_51, x42_50r (a0 := 47 + 5 * t) (by omega) (kd_t ht), ↓reduceIte, Option.toList, List.nil_append, List.cons_append, nI_add, pk_mul, n_and, n_or, n_xor, nI_leI, nI_ltI, nI_eq, n_z, uI_s, uI_n, bI_n0, bI_n1, bT, bF, if_true, if_false, not_true, not_false_eq_true, pk_div, pk_rem, Nat.reduceEqDiff, Nat.reduceLeDiff, Nat.reduceLT, Nat.reduceAdd, Nat.reduceMul, Nat.reduceSub, Nat.not_lt_zero, Nat.zero_le, reduceCtorEq, ite_self, n_rem, and_self, and_true, true_and, and_false, false_and, valR, q5]
      · rw [if_neg c3]
        obtain ⟨w, ew⟩ : ∃ w, w = if tK b n p = 33 then 44 else 20 := ⟨_, rfl⟩
        have st4 : ∀ (I3 : Nat → Nat → Int32), (∀ Q, Rn sc (d + 14) 88 0 [some (.ref (47 + 5 * t)), some (.int (nI w)), some (.int (nI 0))] [] (K0, I2, J, R1 (some (47 + 5 * t))) Q = Q none (K0, I3, J, R1 (some (47 + 5 * t)))) → ∀ Q, Rn sc (d + 15) 42 0 [some (.ref 67), some (.int (nI o)), none] [] (K0, I, J, R1 (some (47 + 5 * t))) Q = Q none (K0, I3, J, R1 (some (47 + 5 * t))) := fun I3 q3 Q => by
          rw [st1 Q]
          by_cases c4 : tK b n p = 33
          · rw [if_pos c4] at ew
            rw [ew] at q3
            rw [c4]
            simp (disch := first | assumption | omega | decide) only [x42_12, x42_13, x42_14, x42_22, x42_23, x42_24, x42_29, x42_30, x42_31, x42_32, x42_33, x42_34, x42_41, x42_42, x42_43, x42_44, x42_45, x42_46, x42_47, x42_48, x42_49, x42_51, x42_50r (a0 := 47 + 5 * t) (by omega) (kd_t ht), ↓reduceIte, Option.toList, List.nil_append, List.cons_append, nI_add, pk_mul, n_and, n_or, n_xor, nI_leI, nI_ltI, nI_eq, n_z, uI_s, uI_n, bI_n0, bI_n1, bT, bF, if_true, if_false, not_true, not_false_eq_true, pk_div, pk_rem, Nat.reduceEqDiff, Nat.reduceLeDiff, Nat.reduceLT, Nat.reduceAdd, Nat.reduceMul, Nat.reduceSub, Nat.not_lt_zero, Nat.zero_le, reduceCtorEq, ite_self, n_rem, and_self, and_true, true_and, and_false, false_and, valR, q2, q3]
          · rw [if_neg c4] at ew
            have c5 : tK b n p = 20 := by omega
            rw [ew] at q3
            rw [c5]
            simp (disch := first | assumption | omega | decide) only [x42_12, x42_13, x42_14, x42_22, x42_23, x42_24, x42_29, x42_30, x42_31, x42_32, x42_33, x42_34, x42_41, x42_42, x42_43, x42_44, x42_45, x42_46, x42_47, x42_48, x42_49, x42_51, x42_50r (a0 := 47 + 5 * t) (by omega) (kd_t ht), ↓reduceIte, Option.toList, List.nil_append, List.cons_append, nI_add, pk_mul, n_and, n_or, n_xor, nI_leI, nI_ltI, nI_eq, n_z, uI_s, uI_n, bI_n0, bI_n1, bT, bF, if_true, if_false, not_true, not_false_eq_true, pk_div, pk_rem, Nat.reduceEqDiff, Nat.reduceLeDiff, Nat.reduceLT, Nat.reduceAdd, Nat.reduceMul, Nat.reduceSub, Nat.not_lt_zero, Nat.zero_le, reduceCtorEq, ite_self, n_rem, and_self, and_true, true_and, and_false, false_and, valR, q2, q3]
        rcases e1 : one (tX b n p) with ⟨f, x⟩ | ⟨a, p1⟩
        · rw [e1, fin_l] at s2
          obtain ⟨I3, f3, d3, q3⟩ := emD (sc := sc) (d := d + 14) (J := J) (T := some (47 + 5 * t)) (u := 0) (w := w) (v := 0) ht s2 (by omega)
          exact ⟨I3, FrZ_t f1 (FrZ_t f2 f3), d3, st4 I3 q3⟩
        · rw [e1, fin_r] at s2
          have s2 : LvS I2 t b n L (cs ++ a.1) p1 := s2
          obtain ⟨b1, b2, b3⟩ := l1 _ tk1 a p1 e1
          have g6 := (tS_le (b := b) b1).2
          have le : (cs ++ a.1).length + 1 ≤ tS b n p1 := by
            rw [List.length_append]
            omega
          obtain ⟨I3, f3, c3', q3⟩ := emL (sc := sc) (d := d + 14) (J := J) (T := some (47 + 5 * t)) (w := w) (v := 0) ht s2.2.2.2.2.2.1 (by omega) (by omega)
          rw [Nat.zero_mul, Nat.add_zero] at c3'
          have ec : cs ++ a.1 ++ [w] = cs ++ (cU (tK b n p) a).1 := by
            unfold cU
            by_cases c4 : tK b n p = 33
            · rw [if_pos c4] at ew
              rw [if_pos c4, ew]
              simp only [List.append_assoc]
            · rw [if_neg c4] at ew
              rw [if_neg c4, ew]
              simp only [List.append_assoc]
          rw [ec] at c3'
          rw [bnd_r, fin_r]
          exact ⟨I3, FrZ_t f1 (FrZ_t f2 (fun c k a1 a2 a3 => f3 c k a2 a3)), LvS_e s2 f3 ht c3' (by rw [← ec, List.length_append]; exact le), st4 I3 q3⟩
/-- what readNot must do -/
def NtS (sc : Sc) (e t : Nat) (b : Nat → Nat) (n L o : Nat) (nt : Nat → Rs) : Prop := ∀ (I : Nat → Nat → Int32) (J : Nat → Nat → Int64) (cs : List Nat) (p : Nat), LvS I t b n L cs p → tK b n p = 27 → ∃ I', FrZ t I I' ∧ StC I' t b n L (fin cs (nt p)) ∧ ∀ Q, Rn sc e 47 0 [some (.ref 67), some (.int (nI o))] [] (K0, I, J, R1 (some (47 + 5 * t))) Q = Q none (K0, I', J, R1 (some (47 + 5 * t)))
theorem ms_ask {nt : Nat → Rs} (ht : t < 4) (hs : MS sc (d + 10) (some (47 + 5 * t)) t b n L 38 [some (.ref 67), some (.int (nI o)), none, none] (smr b n one)) (ls : LnR b n (smr b n one)) (hn : NtS sc (d + 10) t b n L (o + 1) nt) : MS sc (d + 11) (some (47 + 5 * t)) t b n L 46 [some (.ref 67), some (.int (nI o)), none] (askS b n one nt) := by
  intro I J st hst
  rcases st with ⟨f, x⟩ | ⟨cs, p⟩
  · have h2 := hst.1
    have f0 : ¬ f = 0 := by
      have := hst.2.1
      omega
    have f7 := hst.2.2.1
    refine ⟨I, FrZ_r, hst, fun Q => ?_⟩
    simp (disch := first | assumption | omega | decide) only [x46_0, x46_1, x46_2, x46_3, ↓reduceIte, Option.toList, List.nil_append, List.cons_append, nI_add, pk_mul, n_and, n_or, n_xor, nI_leI, nI_ltI, nI_eq, n_z, uI_s, uI_n, bI_n0, bI_n1, bT, bF, if_true, if_false, not_true, not_false_eq_true, pk_div, pk_rem, Nat.reduceEqDiff, Nat.reduceLeDiff, Nat.reduceLT, Nat.reduceAdd, Nat.reduceMul, Nat.reduceSub, Nat.not_lt_zero, Nat.zero_le, reduceCtorEq, ite_self, n_rem, and_self, and_true, true_and, and_false, false_and, h2, f0]
  · have h : LvS I t b n L cs p := hst
    have h2 := h.2.2.2.1
    have k6 := h.2.2.1.2.2.1
    have kl := tK_lt (b := b) (n := n) (p := p)
    have n3 := h.1.1
    have hl := h.2.2.2.2.2.2.1
    rw [ap_r]
    unfold askS
    by_cases c0 : tK b n p = 27
    · rw [if_pos c0]
      obtain ⟨I1, f1, s1, q1⟩ := hn I J cs p h c0
      refine ⟨I1, f1, s1, fun Q => ?_⟩
      rw [c0] at k6
      simp (disch := first | assumption | omega | decide) only [x46_0, x46_1, x46_2, x46_3, x46_4, x46_5, x46_6, x46_7, x46_8, x46_9, x46_10, x46_11, x46_12, x46_13, ↓reduceIte, Option.toList, List.nil_append, List.cons_append, nI_add, pk_mul, n_and, n_or, n_xor, nI_leI, nI_ltI, nI_eq, n_z, uI_s, uI_n, bI_n0, bI_n1, bT, bF, if_true, if_false, not_true, not_false_eq_true, pk_div, pk_rem, Nat.reduceEqDiff, Nat.reduceLeDiff, Nat.reduceLT, Nat.reduceAdd, Nat.reduceMul, Nat.reduceSub, Nat.not_lt_zero, Nat.zero_le, reduceCtorEq, ite_self, n_rem, and_self, and_true, true_and, and_false, false_and, h2, k6, q1]
    · rw [if_neg c0]
      obtain ⟨I1, f1, s1, q1⟩ := hs I J (.inr (cs, p)) h
      have st1 : ∀ Q, Rn sc (d + 11) 46 0 [some (.ref 67), some (.int (nI o)), none] [] (K0, I, J, R1 (some (47 + 5 * t))) Q = Rn sc (d + 11) 46 17 [some (.ref 67), some (.int (nI o)), none] [] (K0, I1, J, R1 (some (47 + 5 * t))) Q := fun Q => by
        simp (disch := first | assumption | omega | decide) only [x46_0, x46_1, x46_2, x46_3, x46_4, x46_5, x46_6, x46_7, x46_14, x46_15, x46_16, ↓reduceIte, Option.toList, List.nil_append, List.cons_append, nI_add, pk_mul, n_and, n_or, n_xor, nI_leI, nI_ltI, nI_eq, n_z, uI_s, uI_n, bI_n0, bI_n1, bT, bF, if_true, if_false, not_true, not_false_eq_true, pk_div, pk_rem, Nat.reduceEqDiff, Nat.reduceLeDiff, Nat.reduceLT, Nat.reduceAdd, Nat.reduceMul, Nat.reduceSub, Nat.not_lt_zero, Nat.zero_le, reduceCtorEq, ite_self, n_rem, and_self, and_true, true_and, and_false, false_and, h2, k6, c0, q1]
      -- behind the sign that is asked by
      have sg : ∀ κ, κ < 64 → I1 67 6 = nI κ → (isCmp κ = true → ∀ Q, Rn sc (d + 11) 46 17 [some (.ref 67), some (.int (nI o)), none] [] (K0, I1, J, R1 (some (47 + 5 * t))) Q = Rn sc (d + 11) 46 32 [some (.ref 67), some (.int (nI o)), some (.int (nI κ))] [] (K0, I1, J, R1 (some (47 + 5 * t))) Q) ∧ (¬ isCmp κ = true → ∀ Q, Rn sc (d + 11) 46 17 [some (.ref 67), some (.int (nI o)), none] [] (K0, I1, J, R1 (some (47 + 5 * t))) Q = Rn sc (d + 11) 46 44 [some (.ref 67), some (.int (nI o)), some (.int (nI κ))] [] (K0, I1, J, R1 (some (47 + 5 * t))) Q) := by
        intro κ hκ e6
        refine ⟨fun c Q => ?_, fun c Q => ?_⟩
        · have c' := of_decide_eq_true c
          by_cases a1 : κ < 28
          · exfalso
            omega
          · by_cases a2 : κ ≤ 31
            · simp (disch := first | assumption | omega | decide) only [x46_17, x46_18, x46_19, x46_20, x46_21, x46_22, x46_23, x46_24, x46_25, x46_26, x46_27, x46_28, x46_29, x46_30, x46_31, ↓reduceIte, Option.toList, List.nil_append, List.cons_append, nI_add, pk_mul, n_and, n_or, n_xor, nI_leI, nI_ltI, nI_eq, n_z, uI_s, uI_n, bI_n0, bI_n1, bT, bF, if_true, if_false, not_true, not_false_eq_true, pk_div, pk_rem, Nat.reduceEqDiff, Nat.reduceLeDiff, Nat.reduceLT, Nat.reduceAdd, Nat.reduceMul, Nat.reduceSub, Nat.not_lt_zero, Nat.zero_le, reduceCtorEq, ite_self, n_rem, and_self, and_true, true_and, and_false, false_and, e6, a1, a2]
            · by_cases a3 : κ = 39
              · simp (disch := first | assumption | omega | decide) only [x46_17, x46_18, x46_19, x46_20, x46_21, x46_22, x46_23, x46_24, x46_25, x46_26, x46_27, x46_28, x46_29, x46_30, x46_31, ↓reduceIte, Option.toList, List.nil_append, List.cons_append, nI_add, pk_mul, n_and, n_or, n_xor, nI_leI, nI_ltI, nI_eq, n_z, uI_s, uI_n, bI_n0, bI_n1, bT, bF, if_true, if_false, not_true, not_false_eq_true, pk_div, pk_rem, Nat.reduceEqDiff, Nat.reduceLeDiff, Nat.reduceLT, Nat.reduceAdd, Nat.reduceMul, Nat.reduceSub, Nat.not_lt_zero, Nat.zero_le, reduceCtorEq, ite_self, n_rem, and_self, and_true, true_and, and_false, false_and, e6, a3]
              · have a4 : κ = 40 := by omega
                simp (disch := first | assumption | omega | decide) only [x46_17, x46_18, x46_19, x46_20, x46_21, x46_22, x46_23, x46_24, x46_25, x46_26, x46_27, x46_28, x46_29, x46_30, x46_31, ↓reduceIte, Option.toList, List.nil_append, List.cons_append, nI_add, pk_mul, n_and, n_or, n_xor, nI_leI, nI_ltI, nI_eq, n_z, uI_s, uI_n, bI_n0, bI_n1, bT, bF, if_true, if_false, not_true, not_false_eq_true, pk_div, pk_rem, Nat.reduceEqDiff, Nat.reduceLeDiff, Nat.reduceLT, Nat.reduceAdd, Nat.reduceMul, Nat.reduceSub, Nat.not_lt_zero, Nat.zero_le, reduceCtorEq, ite_self, n_rem, and_self, and_true, true_and, and_false, false_and, e6, a4]
        · have c' : ¬ ((28 ≤ κ ∧ κ ≤ 31) ∨ κ = 39 ∨ κ = 40) := fun q => c (decide_eq_true q)
          have a3 : ¬ κ = 39 := by omega
          have a4 : ¬ κ = 40 := by omega
          by_cases a1 : κ < 28
          · simp (disch := first | assumption | omega | decide) only [x46_17, x46_18, x46_19, x46_20, x46_21, x46_22, x46_23, x46_24, x46_25, x46_26, x46_27, x46_28, x46_29, x46_30, x46_31, ↓reduceIte, Option.toList, List.nil_append, List.cons_append, nI_add, pk_mul, n_and, n_or, n_xor, nI_leI, nI_ltI, nI_eq, n_z, uI_s, uI_n, bI_n0, bI_n1, bT, bF, if_true, if_false, not_true, not_false_eq_true, pk_div, pk_rem, Nat.reduceEqDiff, Nat.reduceLeDiff, Nat.reduceLT, Nat.reduceAdd, Nat.reduceMul, Nat.reduceSub, Nat.not_lt_zero, Nat.zero_le, reduceCtorEq, ite_self, n_rem, and_self, and_true, true_and, and_false, false_and, e6, a1, a3, a4]
          · have a2 : ¬ κ ≤ 31 := by omega
            simp (disch := first | assumption | omega | decide) only [x46_17, x46_18, x46_19, x46_20, x46_21, x46_22, x46_23, x46_24, x46_25, x46_26, x46_27, x46_28, x46_29, x46_30, x46_31, ↓reduceIte, Option.toList, List.nil_append, List.cons_append, nI_add, pk_mul, n_and, n_or, n_xor, nI_leI, nI_ltI, nI_eq, n_z, uI_s, uI_n, bI_n0, bI_n1, bT, bF, if_true, if_false, not_true, not_false_eq_true, pk_div, pk_rem, Nat.reduceEqDiff, Nat.reduceLeDiff, Nat.reduceLT, Nat.reduceAdd, Nat.reduceMul, Nat.reduceSub, Nat.not_lt_zero, Nat.zero_le, reduceCtorEq, ite_self, n_rem, and_self, and_true, true_and, and_false, false_and, e6, a1, a2, a3, a4]
      rw [ap_r] at s1
      rcases e1 : smr b n one p with ⟨f, x⟩ | ⟨c, p1⟩
      · rw [e1, fin_l] at s1
        have s1 : DdC I1 t f x := s1
        obtain ⟨κ, hκ, e6⟩ := s1.2.2.2.2.2
        obtain ⟨g1, g2⟩ := sg κ hκ e6
        rw [bnd_l, fin_l]
        by_cases cc : isCmp κ = true
        · have cc' := of_decide_eq_true cc
          have xp := ms_expect (sc := sc) (d := d + 4) (T := some (47 + 5 * t)) (t := t) (b := b) (n := n) (L := L) (w := κ) (by omega)
          obtain ⟨I2, f2, s2, q2⟩ := xp I1 J (.inl (f, x)) s1
          obtain ⟨I3, f3, s3, q3⟩ := hs I2 J (.inl (f, x)) s2
          obtain ⟨I4, f4, d4, q4⟩ := emD (sc := sc) (d := d + 10) (J := J) (T := some (47 + 5 * t)) (u := 0) (w := κ) (v := 0) ht s3 (by omega)
          refine ⟨I4, FrZ_t f1 (FrZ_t f2 (FrZ_t f3 f4)), d4, fun Q => ?_⟩
          rw [st1 Q, g1 cc Q]
          simp (disch := first | assumption | omega | decide) only [x46_32, x46_33, x46_34, x46_35, x46_36, x46_37, x46_38, x46_39, x46_40, x46_41, x46_43, x46_47, x46_42r (a0 := 47 + 5 * t) (by omega) (kd_t ht), ↓reduceIte, Option.toList, List.nil_append, List.cons_append, nI_add, pk_mul, n_and, n_or, n_xor, nI_leI, nI_ltI, nI_eq, n_z, uI_s, uI_n, bI_n0, bI_n1, bT, bF, if_true, if_false, not_true, not_false_eq_true, pk_div, pk_rem, Nat.reduceEqDiff, Nat.reduceLeDiff, Nat.reduceLT, Nat.reduceAdd, Nat.reduceMul, Nat.reduceSub, Nat.not_lt_zero, Nat.zero_le, reduceCtorEq, ite_self, n_rem, and_self, and_true, true_and, and_false, false_and, valR, q2, q3, q4]
        · have fd := sp_failD (sc := sc) (d := d + 10) (J := J) (T := some (47 + 5 * t)) (w := 1) s1
          refine ⟨I1, f1, s1, fun Q => ?_⟩
          rw [st1 Q, g2 cc Q]
          simp (disch := first | assumption | omega | decide) only [x46_44, x46_45, x46_46, x46_47, ↓reduceIte, Option.toList, List.nil_append, List.cons_append, nI_add, pk_mul, n_and, n_or, n_xor, nI_leI, nI_ltI, nI_eq, n_z, uI_s, uI_n, bI_n0, bI_n1, bT, bF, if_true, if_false, not_true, not_false_eq_true, pk_div, pk_rem, Nat.reduceEqDiff, Nat.reduceLeDiff, Nat.reduceLT, Nat.reduceAdd, Nat.reduceMul, Nat.reduceSub, Nat.not_lt_zero, Nat.zero_le, reduceCtorEq, ite_self, n_rem, and_self, and_true, true_and, and_false, false_and, fd]
      · rw [e1, fin_r] at s1
        have s1 : LvS I1 t b n L (cs ++ c.1) p1 := s1
        have k6' := s1.2.2.1.2.2.1
        have kl' := tK_lt (b := b) (n := n) (p := p1)
        obtain ⟨g1, g2⟩ := sg (tK b n p1) (by omega) k6'
        rw [bnd_r]
        by_cases cc : isCmp (tK b n p1) = true
        · have cc' := of_decide_eq_true cc
          obtain ⟨tk1, tk2⟩ := tk_st s1.2.1 (show tK b n p1 ≠ 42 by omega)
          have hl1 := s1.2.2.2.2.2.2.1
          have xp := ms_expect (sc := sc) (d := d + 4) (T := some (47 + 5 * t)) (t := t) (b := b) (n := n) (L := L) (w := tK b n p1) (by omega)
          obtain ⟨I2, f2, s2, q2⟩ := xp I1 J (.inr (cs ++ c.1, p1)) s1
          have ex : xpt b n (tK b n p1) c p1 = .inr (c, tX b n p1) := if_pos rfl
          rw [fin_x, ex, fin_r] at s2
          obtain ⟨I3, f3, s3, q3⟩ := hs I2 J (.inr (cs ++ c.1, tX b n p1)) s2
          rw [ap_r] at s3
          rw [if_pos cc]
          have st4 : ∀ (I4 : Nat → Nat → Int32), (∀ Q, Rn sc (d + 10) 88 0 [some (.ref (47 + 5 * t)), some (.int (nI (tK b n p1))), some (.int (nI 0))] [] (K0, I3, J, R1 (some (47 + 5 * t))) Q = Q none (K0, I4, J, R1 (some (47 + 5 * t)))) → ∀ Q, Rn sc (d + 11) 46 0 [some (.ref 67), some (.int (nI o)), none] [] (K0, I, J, R1 (some (47 + 5 * t))) Q = Q none (K0, I4, J, R1 (some (47 + 5 * t))) := fun I4 q4 Q => by
            rw [st1 Q, g1 cc Q]
            simp (disch := first | assumption | omega | decide) only [x46_32, x46_33, x46_34, x46_35, x46_36, x46_37, x46_38, x46_39, x46_40, x46_41, x46_43, x46_47, x46_42r (a0 := 47 + 5 * t) (by omega) (kd_t ht), ↓reduceIte, Option.toList, List.nil_append, List.cons_append, nI_add, pk_mul, n_and, n_or, n_xor, nI_leI, nI_ltI, nI_eq, n_z, uI_s, uI_n, bI_n0, bI_n1, bT, bF, if_true, if_false, not_true, not_false_eq_true, pk_div, pk_rem, Nat.reduceEqDiff, Nat.reduceLeDiff, Nat.reduceLT, Nat.reduceAdd, Nat.reduceMul, Nat.reduceSub, Nat.not_lt_zero, Nat.zero_le, reduceCtorEq, ite_self, n_rem, and_self, and_true, true_and, and_false, false_and, valR, q2, q3, q4]
          rcases e2 : smr b n one (tX b n p1) with ⟨f, x⟩ | ⟨c2, p2⟩
          · rw [e2, fin_l] at s3
            obtain ⟨I4, f4, d4, q4⟩ := emD (sc := sc) (d := d + 10) (J := J) (T := some (47 + 5 * t)) (u := 0) (w := tK b n p1) (v := 0) ht s3 (by omega)
            exact ⟨I4, FrZ_t f1 (FrZ_t f2 (FrZ_t f3 f4)), d4, st4 I4 q4⟩
          · rw [e2, fin_r] at s3
            have s3 : LvS I3 t b n L (cs ++ c.1 ++ c2.1) p2 := s3
            obtain ⟨b1, b2, b3⟩ := ls _ tk1 c2 p2 e2
            have g6 := (tS_le (b := b) b1).2
            have le : (cs ++ c.1 ++ c2.1).length + 1 ≤ tS b n p2 := by
              rw [List.length_append]
              omega
            obtain ⟨I4, f4, c4, q4⟩ := emL (sc := sc) (d := d + 10) (J := J) (T := some (47 + 5 * t)) (w := tK b n p1) (v := 0) ht s3.2.2.2.2.2.1 (by omega) (by omega)
            rw [Nat.zero_mul, Nat.add_zero] at c4
            have ec : cs ++ c.1 ++ c2.1 ++ [tK b n p1] = cs ++ (cC (tK b n p1) c c2).1 := by
              unfold cC
              simp only [List.append_assoc]
            rw [ec] at c4
            rw [bnd_r, fin_r]
            exact ⟨I4, FrZ_t f1 (FrZ_t f2 (FrZ_t f3 (fun c k a1 a2 a3 => f4 c k a2 a3))), LvS_e s3 f4 ht c4 (by rw [← ec, List.length_append]; exact le), st4 I4 q4⟩
        · obtain ⟨I2, f2, d2, q2⟩ := sp_failL (sc := sc) (d := d + 10) (J := J) (T := some (47 + 5 * t)) (w := 1) (by omega) s1
          rw [if_neg cc]
          refine ⟨I2, FrZ_t f1 f2, d2, fun Q => ?_⟩
          rw [st1 Q, g2 cc Q]
          simp (disch := first | assumption | omega | decide) only [x46_44, x46_45, x46_46, x46_47, ↓reduceIte, Option.toList, List.nil_append, List.cons_append, nI_add, pk_mul, n_and, n_or, n_xor, nI_leI, nI_ltI, nI_eq, n_z, uI_s, uI_n, bI_n0, bI_n1, bT, bF, if_true, if_false, not_true, not_false_eq_true, pk_div, pk_rem, Nat.reduceEqDiff, Nat.reduceLeDiff, Nat.reduceLT, Nat.reduceAdd, Nat.reduceMul, Nat.reduceSub, Nat.not_lt_zero, Nat.zero_le, reduceCtorEq, ite_self, n_rem, and_self, and_true, true_and, and_false, false_and, q2]
theorem nt_S (ht : t < 4) (ho : o ≤ 8) (ha : MS sc (d + 9) (some (47 + 5 * t)) t b n L 46 [some (.ref 67), some (.int (nI o)), none] ask) (la : LnR b n ask) : NtS sc (d + 10) t b n L o (fun p => bnd (ask (tX b n p)) (fun c p1 => .inr (cNt c, p1))) := by
  intro I J cs p h hK
  have hl := h.2.2.2.2.2.2.1
  have n3 := h.1.1
  obtain ⟨tk1, tk2⟩ := tk_st h.2.1 (show tK b n p ≠ 42 by omega)
  obtain ⟨I1, f1, s1, q1⟩ := nxL (sc := sc) (d := d + 4) (J := J) (T := some (47 + 5 * t)) h
  obtain ⟨I2, f2, s2, q2⟩ := ha I1 J (.inr (cs, tX b n p)) s1
  rw [ap_r] at s2
  have st4 : ∀ (I4 : Nat → Nat → Int32), (∀ Q, Rn sc (d + 9) 88 0 [some (.ref (47 + 5 * t)), some (.int (nI 27)), some (.int (nI 0))] [] (K0, I2, J, R1 (some (47 + 5 * t))) Q = Q none (K0, I4, J, R1 (some (47 + 5 * t)))) → ∀ Q, Rn sc (d + 10) 47 0 [some (.ref 67), some (.int (nI o))] [] (K0, I, J, R1 (some (47 + 5 * t))) Q = Q none (K0, I4, J, R1 (some (47 + 5 * t))) := fun I4 q4 Q => by
    simp (disch := first | assumption | omega | decide) only [x47_0, x47_1, x47_2, x47_3, x47_4, x47_5, x47_6, x47_7, x47_8, x47_9, x47_10, x47_11, x47_12, x47_13, x47_14, x47_15, x47_17, x47_16r (a0 := 47 + 5 * t) (by omega) (kd_t ht), ↓reduceIte, Option.toList, List.nil_append, List.cons_append, nI_add, pk_mul, n_and, n_or, n_xor, nI_leI, nI_ltI, nI_eq, n_z, uI_s, uI_n, bI_n0, bI_n1, bT, bF, if_true, if_false, not_true, not_false_eq_true, pk_div, pk_rem, Nat.reduceEqDiff, Nat.reduceLeDiff, Nat.reduceLT, Nat.reduceAdd, Nat.reduceMul, Nat.reduceSub, Nat.not_lt_zero, Nat.zero_le, reduceCtorEq, ite_self, n_rem, and_self, and_true, true_and, and_false, false_and, valR, ho, q1, q2, q4]
  show ∃ I', FrZ t I I' ∧ StC I' t b n L (fin cs (bnd (ask (tX b n p)) (fun c p1 => .inr (cNt c, p1)))) ∧ _
  rcases e1 : ask (tX b n p) with ⟨f, x⟩ | ⟨c, p1⟩
  · rw [e1, fin_l] at s2
    obtain ⟨I4, f4, d4, q4⟩ := emD (sc := sc) (d := d + 9) (J := J) (T := some (47 + 5 * t)) (u := 0) (w := 27) (v := 0) ht s2 (by omega)
    exact ⟨I4, FrZ_t f1 (FrZ_t f2 f4), d4, st4 I4 q4⟩
  · rw [e1, fin_r] at s2
    have s2 : LvS I2 t b n L (cs ++ c.1) p1 := s2
    obtain ⟨b1, b2, b3⟩ := la _ tk1 c p1 e1
    have g6 := (tS_le (b := b) b1).2
    have le : (cs ++ c.1).length + 1 ≤ tS b n p1 := by
      rw [List.length_append]
      omega
    obtain ⟨I4, f4, c4, q4⟩ := emL (sc := sc) (d := d + 9) (J := J) (T := some (47 + 5 * t)) (w := 27) (v := 0) ht s2.2.2.2.2.2.1 (by omega) (by omega)
    rw [Nat.zero_mul, Nat.add_zero] at c4
    have ec : cs ++ c.1 ++ [27] = cs ++ (cNt c).1 := by
      unfold cNt
      simp only [List.append_assoc]
    rw [ec] at c4
    rw [bnd_r, fin_r]
    exact ⟨I4, FrZ_t f1 (FrZ_t f2 (fun c k a1 a2 a3 => f4 c k a2 a3)), LvS_e s2 f4 ht c4 (by rw [← ec, List.length_append]; exact le), st4 I4 q4⟩
theorem nt_0 (ho : 8 < o) (h9 : o < 100) : NtS sc (d + 10) t b n L o (dpF b n) := by
  intro I J cs p h hK
  obtain ⟨I1, f1, d1, q1⟩ := sp_failL (sc := sc) (d := d + 9) (J := J) (T := some (47 + 5 * t)) (w := 3) (by omega) h
  have o8 : ¬ o ≤ 8 := by omega
  refine ⟨I1, f1, d1, fun Q => ?_⟩
  simp (disch := first | assumption | omega | decide) only [x47_0, x47_1, x47_2, x47_3, x47_4, x47_5, x47_6, ↓reduceIte, Option.toList, List.nil_append, List.cons_append, nI_add, pk_mul, n_and, n_or, n_xor, nI_leI, nI_ltI, nI_eq, n_z, uI_s, uI_n, bI_n0, bI_n1, bT, bF, if_true, if_false, not_true, not_false_eq_true, pk_div, pk_rem, Nat.reduceEqDiff, Nat.reduceLeDiff, Nat.reduceLT, Nat.reduceAdd, Nat.reduceMul, Nat.reduceSub, Nat.not_lt_zero, Nat.zero_le, reduceCtorEq, ite_self, n_rem, and_self, and_true, true_and, and_false, false_and, o8, q1]
theorem opn_0 (ho : 8 < o) (h9 : o < 100) : OpS sc (d + 7) t b n L o (dpF b n) := by
  intro I J cs p h hK
  have k6 := h.2.2.1.2.2.1
  obtain ⟨I1, f1, d1, q1⟩ := sp_failL (sc := sc) (d := d + 6) (J := J) (T := some (47 + 5 * t)) (w := 3) (by omega) h
  have o8 : ¬ o ≤ 8 := by omega
  refine ⟨I1, f1, d1, fun Q => ?_⟩
  simp (disch := first | assumption | omega | decide) only [x42_0, x42_1, x42_2, x42_3, x42_4, x42_5, x42_6, x42_7, x42_8, x42_9, ↓reduceIte, Option.toList, List.nil_append, List.cons_append, nI_add, pk_mul, n_and, n_or, n_xor, nI_leI, nI_ltI, nI_eq, n_z, uI_s, uI_n, bI_n0, bI_n1, bT, bF, if_true, if_false, not_true, not_false_eq_true, pk_div, pk_rem, Nat.reduceEqDiff, Nat.reduceLeDiff, Nat.reduceLT, Nat.reduceAdd, Nat.reduceMul, Nat.reduceSub, Nat.not_lt_zero, Nat.zero_le, reduceCtorEq, ite_self, n_rem, and_self, and_true, true_and, and_false, false_and, k6, o8, q1]
theorem ma_lv (ht : t < 4) (hL2 : L < 2) : ∀ D, D ≤ 8 → MA sc (8 * D + 8) t b n L 40 [some (.ref 67), some (.int (nI (8 - D)))] (lv1 b n L D).1 ∧ MA sc (8 * D + 11) t b n L 46 [some (.ref 67), some (.int (nI (8 - D))), none] (lv1 b n L D).2
  | 0, _ => by
    have h1 : MA sc (8 * 0 + 8) t b n L 40 [some (.ref 67), some (.int (nI (8 - 0)))] (lv1 b n L 0).1 := fun e he => by
      obtain ⟨d, rfl⟩ : ∃ d, e = d + 8 := ⟨e - 8, by omega⟩
      exact ms_one ht hL2 (opn_0 (by decide) (by decide))
    refine ⟨h1, fun e he => ?_⟩
    obtain ⟨d, rfl⟩ : ∃ d, e = d + 11 := ⟨e - 11, by omega⟩
    exact ms_ask ht (ma_smr ht (by decide) h1 (ln_lv 0).1 (d + 10) (by omega)) (ln_smr (ln_lv 0).1) (nt_0 (by decide) (by decide))
  | D + 1, hD => by
    obtain ⟨i1, i2⟩ := ma_lv ht hL2 D (by omega)
    have eo : 8 - (D + 1) + 1 = 8 - D := by omega
    have h1 : MA sc (8 * (D + 1) + 8) t b n L 40 [some (.ref 67), some (.int (nI (8 - (D + 1))))] (lv1 b n L (D + 1)).1 := fun e he => by
      obtain ⟨d, rfl⟩ : ∃ d, e = d + 8 + 8 := ⟨e - 16, by omega⟩
      refine ms_one ht hL2 ?_
      rw [eo]
      exact op_S (d := d) (k := 8 * D + 8) ht (by omega) (by omega) i1 i2 (ln_lv D).1 (ln_lv D).2 (by omega)
    refine ⟨h1, fun e he => ?_⟩
    obtain ⟨d, rfl⟩ : ∃ d, e = d + 11 := ⟨e - 11, by omega⟩
    refine ms_ask ht (ma_smr ht (by omega) h1 (ln_lv (D + 1)).1 (d + 10) (by omega)) (ln_smr (ln_lv (D + 1)).1) ?_
    rw [eo]
    exact nt_S ht (by omega) (i2 (d + 9) (by omega)) (ln_lv D).2
end ReadE
