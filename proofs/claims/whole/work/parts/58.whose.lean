/-! dearest and whose -/
def rsN (g : (Nat → Nat) → Nat → Nat → Nat) (A : Nat → Nat) (r : Nat) : Nat → Nat
  | 0 => 0
  | h + 1 => rsN g A r h + (if A (12 + h) / 2 ^ r % 2 = 1 then g A h r else 0)
theorem rsN_le {g : (Nat → Nat) → Nat → Nat → Nat} {A : Nat → Nat} {r : Nat} (hg : gB g) (w : Wf A) (hr : r < A 1) : ∀ j, j ≤ 8 → rsN g A r j ≤ 99 * j
  | 0, _ => Nat.le_refl _
  | j + 1, hj => by
    have h1 := rsN_le hg w hr j (by omega)
    have h2 := hg A j r w (by omega) hr
    rw [rsN]
    split <;> omega
def bsB (S : Nat → Nat) : Nat → Nat × Nat
  | 0 => (0, 0)
  | j + 1 => if (bsB S j).2 < S j then (j + 1, S j) else bsB S j
theorem bsB_2 {S : Nat → Nat} : ∀ j, (bsB S j).1 ≤ j ∧ (bsB S j).2 = if (bsB S j).1 = 0 then 0 else S ((bsB S j).1 - 1)
  | 0 => ⟨Nat.le_refl _, rfl⟩
  | j + 1 => by
    obtain ⟨h1, h2⟩ := bsB_2 (S := S) j
    rw [bsB]
    split
    · refine ⟨Nat.le_refl _, ?_⟩
      rw [if_neg (Nat.succ_ne_zero j)]
      rfl
    · exact ⟨by omega, h2⟩
def enB (b : Nat) : Int32 := if b = 0 then -1 else nI (b - 1)
theorem enB_0 : enB 0 = -1 := rfl
theorem enB_s {b : Nat} : enB (b + 1) = nI b := rfl
section Whose
variable {sc : Sc} {d : Nat} {J : Nat → Nat → Int64} {T : Option Nat} {M : Nat → Nat → Int32} {g : (Nat → Nat) → Nat → Nat → Nat} {A : Nat → Nat}
theorem sp_chgAll {I : Nat → Nat → Int32} {r : Nat} (hC : RntC M (A 3) g) (hg : gB g) (w : Wf A) (hr : r < A 1) (t : Twn I 1 2 3 4 5 6 7 8 9 A) (eM : txI I = M) : ∃ I', (∀ c k, c ≠ 69 ∧ c ≠ 70 → I' c k = I c k) ∧ ∀ Q, Rn sc (d + 5) 157 0 [some (.ref 0), some (.int (nI r)), none, none] [] (K0, I, J, R1 T) Q = Q (some (.int (nI (rsN g A r 8)))) (K0, I', J, R1 T) := by
  have w1 : A 1 ≤ 4 := w.1.2.1
  obtain ⟨I', h1, h3⟩ := iterE (fun (_ : Nat) I' => ∀ c k, c ≠ 69 ∧ c ≠ 70 → I' c k = I c k) (fun j I' => fun Q => Rn sc (d + 5) 157 4 [some (.ref 0), some (.int (nI r)), some (.int (nI (rsN g A r j))), some (.int (nI j))] [] (K0, I', J, R1 T) Q) 8 (by
    rintro j I1 hj f1
    have t1 : Twn I1 1 2 3 4 5 6 7 8 9 A := Twn_c t (fun c k hc => f1 c k (by omega)) (fun _ _ _ _ => rfl) ⟨w.1.1, w1⟩
    have eM1 : txI I1 = M := (txI_c (fun c k hc => f1 c k (by omega))).trans eM
    have sk := fun Q => sp_keepsCa (Q := Q) (sc := sc) (d := d + 4) (J := J) (T := T) hj hr w1 t1
    have hr' := fun Q => sp_ruling (Q := Q) (sc := sc) (d := d + 3) (J := J) (T := T) w t1
    have lj : ¬ 8 ≤ j := by omega
    by_cases c : A (12 + j) / 2 ^ r % 2 = 1
    · obtain ⟨I2, f2, q2⟩ := (hC sc d J T A I1 j r w hj hr eM1).1 t1
      refine ⟨I2, fun c k hc => (f2 c k hc).trans (f1 c k hc), funext fun Q => ?_⟩
      show Rn _ _ _ _ _ _ _ _ = Rn _ _ _ _ _ _ _ _
      rw [x157_4, rsN, if_pos c]
      rcases lw_or (A 3) with ⟨a, e⟩ | e <;> rw [e] at q2 hr' <;> simp (disch := first | assumption | omega | decide) only [x157_0, x157_1, x157_2, x157_3, x157_5, x157_6, x157_7, x157_8, x157_9, x157_10, x157_11, x157_12, x157_13, x157_14, x157_15, x157_16, x157_17, x157_18, x157_19, x157_20, x157_21, x157_22r, x157_22n, x157_23, x157_24, x157_25, x157_26, x157_27, x157_28, ↓reduceIte, Option.toList, List.nil_append, List.cons_append, nI_add, pk_mul, n_and, n_or, n_xor, nI_leI, nI_ltI, nI_eq, n_z, uI_s, uI_n, bI_n0, bI_n1, bT, bF, if_true, if_false, not_true, not_false_eq_true, pk_div, pk_rem, Nat.reduceEqDiff, Nat.reduceLeDiff, Nat.reduceLT, Nat.reduceAdd, Nat.reduceMul, Nat.reduceSub, Nat.not_lt_zero, Nat.zero_le, reduceCtorEq, ite_self, n_rem, and_self, and_true, true_and, and_false, false_and, lj, sk, c, hr', q2]
    · refine ⟨I1, f1, funext fun Q => ?_⟩
      show Rn _ _ _ _ _ _ _ _ = Rn _ _ _ _ _ _ _ _
      rw [x157_4, rsN, if_neg c]
      simp (disch := first | assumption | omega | decide) only [x157_0, x157_1, x157_2, x157_3, x157_5, x157_6, x157_7, x157_8, x157_9, x157_10, x157_11, x157_12, x157_13, x157_14, x157_15, x157_16, x157_17, x157_18, x157_19, x157_20, x157_21, x157_22r, x157_22n, x157_23, x157_24, x157_25, x157_26, x157_27, x157_28, ↓reduceIte, Option.toList, List.nil_append, List.cons_append, nI_add, pk_mul, n_and, n_or, n_xor, nI_leI, nI_ltI, nI_eq, n_z, uI_s, uI_n, bI_n0, bI_n1, bT, bF, if_true, if_false, not_true, not_false_eq_true, pk_div, pk_rem, Nat.reduceEqDiff, Nat.reduceLeDiff, Nat.reduceLT, Nat.reduceAdd, Nat.reduceMul, Nat.reduceSub, Nat.not_lt_zero, Nat.zero_le, reduceCtorEq, ite_self, n_rem, and_self, and_true, true_and, and_false, false_and, lj, sk, c, Nat.add_zero]) I (fun _ _ _ => rfl)
  refine ⟨I', h1, fun Q => ?_⟩
  have h3' := congrFun h3 Q
  simp (disch := first | assumption | omega | decide) only [x157_0, x157_1, x157_2, x157_3, x157_5, x157_6, x157_7, x157_8, x157_9, x157_10, x157_11, x157_12, x157_13, x157_14, x157_15, x157_16, x157_17, x157_18, x157_19, x157_20, x157_21, x157_22r, x157_22n, x157_23, x157_24, x157_25, x157_26, x157_27, x157_28]
  refine Eq.trans h3' ?_
  show Rn _ _ _ _ _ _ _ _ = _
  rw [x157_4]
  simp (disch := first | assumption | omega | decide) only [x157_0, x157_1, x157_2, x157_3, x157_5, x157_6, x157_7, x157_8, x157_9, x157_10, x157_11, x157_12, x157_13, x157_14, x157_15, x157_16, x157_17, x157_18, x157_19, x157_20, x157_21, x157_22r, x157_22n, x157_23, x157_24, x157_25, x157_26, x157_27, x157_28, ↓reduceIte, Option.toList, List.nil_append, List.cons_append, nI_add, pk_mul, n_and, n_or, n_xor, nI_leI, nI_ltI, nI_eq, n_z, uI_s, uI_n, bI_n0, bI_n1, bT, bF, if_true, if_false, not_true, not_false_eq_true, pk_div, pk_rem, Nat.reduceEqDiff, Nat.reduceLeDiff, Nat.reduceLT, Nat.reduceAdd, Nat.reduceMul, Nat.reduceSub, Nat.not_lt_zero, Nat.zero_le, reduceCtorEq, ite_self, n_rem, and_self, and_true, true_and, and_false, false_and, Nat.le_refl]
theorem sp_rntsM {I : Nat → Nat → Int32} {r : Nat} (hM : RntM M (A 3) g) (hg : gB g) (w : Wf A) (hr : r < A 1) (m : AtM I 90 A) (eM : txI I = M) : ∃ I' J', (∀ c k, c ≠ 95 ∧ c ≠ 97 → I' c k = I c k) ∧ ∀ Q, Rn sc (d + 6) 260 0 [some (.ref 89), some (.int (nI r)), none, none] [] (K0, I, J, R1 T) Q = Q (some (.int (nI (rsN g A r 8)))) (K0, I', J', R1 T) := by
  have w1 : A 1 ≤ 4 := w.1.2.1
  have w3 : nI (A 3) = nI (A 3) := rfl
  obtain ⟨⟨I', J'⟩, h1, h3⟩ := iterE (St := (Nat → Nat → Int32) × (Nat → Nat → Int64)) (fun (_ : Nat) s => ∀ c k, c ≠ 95 ∧ c ≠ 97 → s.1 c k = I c k) (fun j s => fun Q => Rn sc (d + 6) 260 4 [some (.ref 89), some (.int (nI r)), some (.int (nI (rsN g A r j))), some (.int (nI j))] [] (K0, s.1, s.2, R1 T) Q) 8 (by
    rintro j ⟨I1, J1⟩ hj f1
    have f1 : ∀ c k, c ≠ 95 ∧ c ≠ 97 → I1 c k = I c k := f1
    have m1 : AtM I1 90 A := AtM_c m (fun k => f1 _ _ (by omega))
    have m' : ∀ k, k < 1799 → I1 90 k = nI (A k) := m1
    have eM1 : txI I1 = M := (txI_c (fun c k hc => f1 c k (by omega))).trans eM
    have lj : ¬ 8 ≤ j := by omega
    have lk := keep_lt w hj
    by_cases c : A (12 + j) / 2 ^ r % 2 = 1
    · obtain ⟨I2, J2, f2, q2⟩ := hM sc d J1 T A I1 j r w hj hr eM1 m1
      refine ⟨(I2, J2), fun c k hc => (f2 c k hc).trans (f1 c k hc), funext fun Q => ?_⟩
      show Rn _ _ _ _ _ _ _ _ = Rn _ _ _ _ _ _ _ _
      rw [x260_4, rsN, if_pos c]
      simp (disch := first | assumption | omega | decide) only [x260_0, x260_1, x260_2, x260_3, x260_5, x260_6, x260_7, x260_8, x260_9, x260_10, x260_11, x260_12, x260_13, x260_14, x260_15, x260_16, x260_17, x260_18, x260_19, x260_20, x260_21, x260_22, x260_23, x260_24, x260_25, x260_26, x260_27, x260_28, x260_29, x260_30, x260_31, x260_32, ↓reduceIte, Option.toList, List.nil_append, List.cons_append, nI_add, pk_mul, n_and, n_or, n_xor, nI_leI, nI_ltI, nI_eq, n_z, uI_s, uI_n, bI_n0, bI_n1, bT, bF, if_true, if_false, not_true, not_false_eq_true, pk_div, pk_rem, Nat.reduceEqDiff, Nat.reduceLeDiff, Nat.reduceLT, Nat.reduceAdd, Nat.reduceMul, Nat.reduceSub, Nat.not_lt_zero, Nat.zero_le, reduceCtorEq, ite_self, n_rem, and_self, and_true, true_and, and_false, false_and, lj, m', sp_has, c, q2]
    · refine ⟨(I1, J1), f1, funext fun Q => ?_⟩
      show Rn _ _ _ _ _ _ _ _ = Rn _ _ _ _ _ _ _ _
      rw [x260_4, rsN, if_neg c]
      simp (disch := first | assumption | omega | decide) only [x260_0, x260_1, x260_2, x260_3, x260_5, x260_6, x260_7, x260_8, x260_9, x260_10, x260_11, x260_12, x260_13, x260_14, x260_15, x260_16, x260_17, x260_18, x260_19, x260_20, x260_21, x260_22, x260_23, x260_24, x260_25, x260_26, x260_27, x260_28, x260_29, x260_30, x260_31, x260_32, ↓reduceIte, Option.toList, List.nil_append, List.cons_append, nI_add, pk_mul, n_and, n_or, n_xor, nI_leI, nI_ltI, nI_eq, n_z, uI_s, uI_n, bI_n0, bI_n1, bT, bF, if_true, if_false, not_true, not_false_eq_true, pk_div, pk_rem, Nat.reduceEqDiff, Nat.reduceLeDiff, Nat.reduceLT, Nat.reduceAdd, Nat.reduceMul, Nat.reduceSub, Nat.not_lt_zero, Nat.zero_le, reduceCtorEq, ite_self, n_rem, and_self, and_true, true_and, and_false, false_and, lj, m', sp_has, c]) (I, J) (fun _ _ _ => rfl)
  refine ⟨I', J', h1, fun Q => ?_⟩
  have h3' := congrFun h3 Q
  simp (disch := first | assumption | omega | decide) only [x260_0, x260_1, x260_2, x260_3, x260_5, x260_6, x260_7, x260_8, x260_9, x260_10, x260_11, x260_12, x260_13, x260_14, x260_15, x260_16, x260_17, x260_18, x260_19, x260_20, x260_21, x260_22, x260_23, x260_24, x260_25, x260_26, x260_27, x260_28, x260_29, x260_30, x260_31, x260_32]
  refine Eq.trans h3' ?_
  show Rn _ _ _ _ _ _ _ _ = _
  rw [x260_4]
  simp (disch := first | assumption | omega | decide) only [x260_0, x260_1, x260_2, x260_3, x260_5, x260_6, x260_7, x260_8, x260_9, x260_10, x260_11, x260_12, x260_13, x260_14, x260_15, x260_16, x260_17, x260_18, x260_19, x260_20, x260_21, x260_22, x260_23, x260_24, x260_25, x260_26, x260_27, x260_28, x260_29, x260_30, x260_31, x260_32, ↓reduceIte, Option.toList, List.nil_append, List.cons_append, nI_add, pk_mul, n_and, n_or, n_xor, nI_leI, nI_ltI, nI_eq, n_z, uI_s, uI_n, bI_n0, bI_n1, bT, bF, if_true, if_false, not_true, not_false_eq_true, pk_div, pk_rem, Nat.reduceEqDiff, Nat.reduceLeDiff, Nat.reduceLT, Nat.reduceAdd, Nat.reduceMul, Nat.reduceSub, Nat.not_lt_zero, Nat.zero_le, reduceCtorEq, ite_self, n_rem, and_self, and_true, true_and, and_false, false_and, Nat.le_refl]
end Whose
section Dear
variable {sc : Sc} {d : Nat}
theorem jt_dearest : Jt TXp sc (d + 7) 156 261 [some (.ref 0), none, none, none, none] [some (.ref 89), none, none] := by
  intro A B M w hX
  have w' := w
  obtain ⟨wA, wB, wt⟩ := w
  have w1 : A 1 ≤ 4 := wA.1.2.1
  obtain ⟨g, hC, hM, hg⟩ := rnt_ex (law_ok wA hX)
  have hg' : gB g := hg
  obtain ⟨S, eS⟩ : ∃ S : Nat → Nat, S = fun r => rsN g A r 8 := ⟨_, rfl⟩
  have hS : ∀ r, r < A 1 → S r ≤ 792 := fun r hr => by rw [eS]; exact rsN_le hg' wA hr 8 (by omega)
  have hm : ∀ j, j ≤ A 1 → (bsB S j).2 ≤ 792 := by
    intro j hj
    obtain ⟨h1, h2⟩ := bsB_2 (S := S) j
    rw [h2]
    split
    · omega
    · exact hS _ (by omega)
  refine ⟨enB (bsB S (A 1)).1, A, B, w', Nat.le_refl _, ?_, ?_⟩
  · intro I J T cI eM
    obtain ⟨⟨I', u⟩, h1, h3⟩ := iterE (St := (Nat → Nat → Int32) × Option Value) (fun (_ : Nat) s => ∀ c k, c ≠ 69 ∧ c ≠ 70 → s.1 c k = I c k) (fun j s => fun Q => Rn sc (d + 7) 156 6 [some (.ref 0), some (.int (enB (bsB S j).1)), some (.int (nI (bsB S j).2)), some (.int (nI j)), s.2] [] (K0, s.1, J, R1 T) Q) (A 1) (by
      rintro j ⟨I1, u1⟩ hj f1
      have f1 : ∀ c k, c ≠ 69 ∧ c ≠ 70 → I1 c k = I c k := f1
      have c1 : CI I1 A B := CI_c w' cI (fun c k hc => f1 c k (by omega))
      obtain ⟨I2, f2, q2⟩ := sp_chgAll (sc := sc) (d := d + 1) (J := J) (T := T) hC hg' wA hj c1.1 ((txI_c (fun c k hc => f1 c k (by omega))).trans eM)
      have eSj : rsN g A j 8 = S j := by rw [eS]
      rw [eSj] at q2
      have b1 := hS j hj
      have b2 := hm j (by omega)
      have lj : ¬ A 1 ≤ j := by omega
      refine ⟨(I2, some (.int (nI (S j)))), fun c k hc => (f2 c k hc).trans (f1 c k hc), funext fun Q => ?_⟩
      show Rn _ _ _ _ _ _ _ _ = Rn _ _ _ _ _ _ _ _
      rw [x156_6, bsB]
      by_cases c : (bsB S j).2 < S j
      · have c' : ¬ S j ≤ (bsB S j).2 := by omega
        rw [if_pos c, enB_s]
        simp (disch := first | assumption | omega | decide) only [x156_0, x156_1, x156_2, x156_3, x156_4, x156_5, x156_7, x156_8, x156_9, x156_10, x156_11, x156_12, x156_13, x156_14, x156_15, x156_16, x156_17, x156_18, x156_19, x156_20, x156_21, x156_22, x156_23, x156_24, x156_25, ↓reduceIte, Option.toList, List.nil_append, List.cons_append, nI_add, pk_mul, n_and, n_or, n_xor, nI_leI, nI_ltI, nI_eq, n_z, uI_s, uI_n, bI_n0, bI_n1, bT, bF, if_true, if_false, not_true, not_false_eq_true, pk_div, pk_rem, Nat.reduceEqDiff, Nat.reduceLeDiff, Nat.reduceLT, Nat.reduceAdd, Nat.reduceMul, Nat.reduceSub, Nat.not_lt_zero, Nat.zero_le, reduceCtorEq, ite_self, n_rem, and_self, and_true, true_and, and_false, false_and, tw_rumours c1.1, lj, q2, c']
      · have c' : S j ≤ (bsB S j).2 := by omega
        rw [if_neg c]
        simp (disch := first | assumption | omega | decide) only [x156_0, x156_1, x156_2, x156_3, x156_4, x156_5, x156_7, x156_8, x156_9, x156_10, x156_11, x156_12, x156_13, x156_14, x156_15, x156_16, x156_17, x156_18, x156_19, x156_20, x156_21, x156_22, x156_23, x156_24, x156_25, ↓reduceIte, Option.toList, List.nil_append, List.cons_append, nI_add, pk_mul, n_and, n_or, n_xor, nI_leI, nI_ltI, nI_eq, n_z, uI_s, uI_n, bI_n0, bI_n1, bT, bF, if_true, if_false, not_true, not_false_eq_true, pk_div, pk_rem, Nat.reduceEqDiff, Nat.reduceLeDiff, Nat.reduceLT, Nat.reduceAdd, Nat.reduceMul, Nat.reduceSub, Nat.not_lt_zero, Nat.zero_le, reduceCtorEq, ite_self, n_rem, and_self, and_true, true_and, and_false, false_and, tw_rumours c1.1, lj, q2, c']) (I, none) (fun _ _ _ => rfl)
    have c1 : CI I' A B := CI_c w' cI (fun c k hc => h1 c k (by omega))
    refine ⟨I', fun c k hc => h1 c k (by omega), c1, fun Q => ?_⟩
    have h3' := congrFun h3 Q
    simp (disch := first | assumption | omega | decide) only [x156_0, x156_1, x156_2, x156_3, x156_4, x156_5, x156_7, x156_8, x156_9, x156_10, x156_11, x156_12, x156_13, x156_14, x156_15, x156_16, x156_17, x156_18, x156_19, x156_20, x156_21, x156_22, x156_23, x156_24, x156_25]
    refine Eq.trans h3' ?_
    show Rn _ _ _ _ _ _ _ _ = _
    rw [x156_6]
    simp (disch := first | assumption | omega | decide) only [x156_0, x156_1, x156_2, x156_3, x156_4, x156_5, x156_7, x156_8, x156_9, x156_10, x156_11, x156_12, x156_13, x156_14, x156_15, x156_16, x156_17, x156_18, x156_19, x156_20, x156_21, x156_22, x156_23, x156_24, x156_25, ↓reduceIte, Option.toList, List.nil_append, List.cons_append, nI_add, pk_mul, n_and, n_or, n_xor, nI_leI, nI_ltI, nI_eq, n_z, uI_s, uI_n, bI_n0, bI_n1, bT, bF, if_true, if_false, not_true, not_false_eq_true, pk_div, pk_rem, Nat.reduceEqDiff, Nat.reduceLeDiff, Nat.reduceLT, Nat.reduceAdd, Nat.reduceMul, Nat.reduceSub, Nat.not_lt_zero, Nat.zero_le, reduceCtorEq, ite_self, n_rem, and_self, and_true, true_and, and_false, false_and, tw_rumours c1.1, Nat.le_refl]
  · intro I J T mI eM
    obtain ⟨⟨I', J'⟩, h1, h3⟩ := iterE (St := (Nat → Nat → Int32) × (Nat → Nat → Int64)) (fun (_ : Nat) s => ∀ c k, c ≠ 95 ∧ c ≠ 97 → s.1 c k = I c k) (fun j s => fun Q => Rn sc (d + 7) 261 4 [some (.ref 89), some (.int (enB (bsB S j).1)), some (.int (nI j))] [] (K0, s.1, s.2, R1 T) Q) (A 1) (by
      rintro j ⟨I1, J1⟩ hj f1
      have f1 : ∀ c k, c ≠ 95 ∧ c ≠ 97 → I1 c k = I c k := f1
      have m1 : AtM I1 90 A := AtM_c mI.1 (fun k => f1 _ _ (by omega))
      obtain ⟨I2, J2, f2, q2⟩ := sp_rntsM (sc := sc) (d := d) (J := J1) (T := T) hM hg' wA hj m1 ((txI_c (fun c k hc => f1 c k (by omega))).trans eM)
      have eSj : rsN g A j 8 = S j := by rw [eS]
      rw [eSj] at q2
      have b1 := hS j hj
      have b2 := hm j (by omega)
      have lj : ¬ A 1 ≤ j := by omega
      have e1 : I1 90 1 = nI (A 1) := m1 1 (by decide)
      obtain ⟨p1, p2⟩ := bsB_2 (S := S) j
      obtain ⟨b, eb⟩ : ∃ b, b = (bsB S j).1 := ⟨_, rfl⟩
      rw [← eb] at p1 p2
      cases b with
      | zero =>
        rw [if_pos rfl] at p2
        refine ⟨(I2, J2), fun c k hc => (f2 c k hc).trans (f1 c k hc), funext fun Q => ?_⟩
        show Rn _ _ _ _ _ _ _ _ = Rn _ _ _ _ _ _ _ _
        rw [x261_4, bsB, p2, ← eb, enB_0]
        by_cases c : 0 < S j
        · have c' : ¬ S j ≤ 0 := by omega
          rw [if_pos c, enB_s]
          simp (disch := first | assumption | omega | decide) only [x261_0, x261_1, x261_2, x261_3, x261_5, x261_6, x261_7, x261_8, x261_9, x261_10, x261_11, x261_12, x261_13, x261_14, x261_15, x261_16, x261_17, x261_18, x261_19, x261_20, x261_21, x261_22, x261_23, x261_24, x261_25, x261_26, x261_27, ↓reduceIte, Option.toList, List.nil_append, List.cons_append, nI_add, pk_mul, n_and, n_or, n_xor, nI_leI, nI_ltI, nI_eq, n_z, uI_s, uI_n, bI_n0, bI_n1, bT, bF, if_true, if_false, not_true, not_false_eq_true, pk_div, pk_rem, Nat.reduceEqDiff, Nat.reduceLeDiff, Nat.reduceLT, Nat.reduceAdd, Nat.reduceMul, Nat.reduceSub, Nat.not_lt_zero, Nat.zero_le, reduceCtorEq, ite_self, n_rem, and_self, and_true, true_and, and_false, false_and, e1, lj, q2, c']
        · have c' : S j ≤ 0 := by omega
          rw [if_neg c, ← eb, enB_0]
          simp (disch := first | assumption | omega | decide) only [x261_0, x261_1, x261_2, x261_3, x261_5, x261_6, x261_7, x261_8, x261_9, x261_10, x261_11, x261_12, x261_13, x261_14, x261_15, x261_16, x261_17, x261_18, x261_19, x261_20, x261_21, x261_22, x261_23, x261_24, x261_25, x261_26, x261_27, ↓reduceIte, Option.toList, List.nil_append, List.cons_append, nI_add, pk_mul, n_and, n_or, n_xor, nI_leI, nI_ltI, nI_eq, n_z, uI_s, uI_n, bI_n0, bI_n1, bT, bF, if_true, if_false, not_true, not_false_eq_true, pk_div, pk_rem, Nat.reduceEqDiff, Nat.reduceLeDiff, Nat.reduceLT, Nat.reduceAdd, Nat.reduceMul, Nat.reduceSub, Nat.not_lt_zero, Nat.zero_le, reduceCtorEq, ite_self, n_rem, and_self, and_true, true_and, and_false, false_and, e1, lj, q2, c']
      | succ b =>
        rw [if_neg (Nat.succ_ne_zero b), Nat.add_sub_cancel] at p2
        have m2 : AtM I2 90 A := AtM_c m1 (fun k => f2 _ _ (by omega))
        obtain ⟨I3, J3, f3, q3⟩ := sp_rntsM (sc := sc) (d := d) (J := J2) (T := T) (r := b) hM hg' wA (by omega) m2 ((txI_c (fun c k hc => (f2 c k (by omega)).trans (f1 c k (by omega)))).trans eM)
        have eSb : rsN g A b 8 = S b := by rw [eS]
        rw [eSb] at q3
        have b3 := hS b (by omega)
        refine ⟨(I3, J3), fun c k hc => (f3 c k hc).trans ((f2 c k hc).trans (f1 c k hc)), funext fun Q => ?_⟩
        show Rn _ _ _ _ _ _ _ _ = Rn _ _ _ _ _ _ _ _
        rw [x261_4, bsB, p2, ← eb, enB_s]
        by_cases c : S b < S j
        · have c' : ¬ S j ≤ S b := by omega
          rw [if_pos c, enB_s]
          simp (disch := first | assumption | omega | decide) only [x261_0, x261_1, x261_2, x261_3, x261_5, x261_6, x261_7, x261_8, x261_9, x261_10, x261_11, x261_12, x261_13, x261_14, x261_15, x261_16, x261_17, x261_18, x261_19, x261_20, x261_21, x261_22, x261_23, x261_24, x261_25, x261_26, x261_27, ↓reduceIte, Option.toList, List.nil_append, List.cons_append, nI_add, pk_mul, n_and, n_or, n_xor, nI_leI, nI_ltI, nI_eq, n_z, uI_s, uI_n, bI_n0, bI_n1, bT, bF, if_true, if_false, not_true, not_false_eq_true, pk_div, pk_rem, Nat.reduceEqDiff, Nat.reduceLeDiff, Nat.reduceLT, Nat.reduceAdd, Nat.reduceMul, Nat.reduceSub, Nat.not_lt_zero, Nat.zero_le, reduceCtorEq, ite_self, n_rem, and_self, and_true, true_and, and_false, false_and, e1, lj, q2, q3, c', n_m1e (show b < 2 ^ 31 by omega)]
        · have c' : S j ≤ S b := by omega
          rw [if_neg c, ← eb, enB_s]
          simp (disch := first | assumption | omega | decide) only [x261_0, x261_1, x261_2, x261_3, x261_5, x261_6, x261_7, x261_8, x261_9, x261_10, x261_11, x261_12, x261_13, x261_14, x261_15, x261_16, x261_17, x261_18, x261_19, x261_20, x261_21, x261_22, x261_23, x261_24, x261_25, x261_26, x261_27, ↓reduceIte, Option.toList, List.nil_append, List.cons_append, nI_add, pk_mul, n_and, n_or, n_xor, nI_leI, nI_ltI, nI_eq, n_z, uI_s, uI_n, bI_n0, bI_n1, bT, bF, if_true, if_false, not_true, not_false_eq_true, pk_div, pk_rem, Nat.reduceEqDiff, Nat.reduceLeDiff, Nat.reduceLT, Nat.reduceAdd, Nat.reduceMul, Nat.reduceSub, Nat.not_lt_zero, Nat.zero_le, reduceCtorEq, ite_self, n_rem, and_self, and_true, true_and, and_false, false_and, e1, lj, q2, q3, c', n_m1e (show b < 2 ^ 31 by omega)]) (I, J) (fun _ _ _ => rfl)
    have c1 : MI I' A B := MI_c mI (fun c k hc => h1 c k (by omega)) (h1 _ _ (by omega))
    have e1 : I' 90 1 = nI (A 1) := c1.1 1 (by decide)
    refine ⟨I', J', ⟨fun c k hc => h1 c k (by omega), fun k hk => h1 _ _ (by omega)⟩, c1, fun Q => ?_⟩
    have h3' := congrFun h3 Q
    simp (disch := first | assumption | omega | decide) only [x261_0, x261_1, x261_2, x261_3, x261_5, x261_6, x261_7, x261_8, x261_9, x261_10, x261_11, x261_12, x261_13, x261_14, x261_15, x261_16, x261_17, x261_18, x261_19, x261_20, x261_21, x261_22, x261_23, x261_24, x261_25, x261_26, x261_27]
    refine Eq.trans h3' ?_
    show Rn _ _ _ _ _ _ _ _ = _
    rw [x261_4]
    simp (disch := first | assumption | omega | decide) only [x261_0, x261_1, x261_2, x261_3, x261_5, x261_6, x261_7, x261_8, x261_9, x261_10, x261_11, x261_12, x261_13, x261_14, x261_15, x261_16, x261_17, x261_18, x261_19, x261_20, x261_21, x261_22, x261_23, x261_24, x261_25, x261_26, x261_27, ↓reduceIte, Option.toList, List.nil_append, List.cons_append, nI_add, pk_mul, n_and, n_or, n_xor, nI_leI, nI_ltI, nI_eq, n_z, uI_s, uI_n, bI_n0, bI_n1, bT, bF, if_true, if_false, not_true, not_false_eq_true, pk_div, pk_rem, Nat.reduceEqDiff, Nat.reduceLeDiff, Nat.reduceLT, Nat.reduceAdd, Nat.reduceMul, Nat.reduceSub, Nat.not_lt_zero, Nat.zero_le, reduceCtorEq, ite_self, n_rem, and_self, and_true, true_and, and_false, false_and, e1, Nat.le_refl]
end Dear
/-- whether all that was said is so by a law -/
def agE (g : (Nat → Nat) → Nat → Nat → Nat) (A : Nat → Nat) (j : Nat) : Prop := g A (A (95 + 3 * j)) (A (95 + 3 * j + 1)) = A (95 + 3 * j + 2)
def agN (g : (Nat → Nat) → Nat → Nat → Nat) (A : Nat → Nat) : Nat → Prop
  | 0 => True
  | j + 1 => agN g A j ∧ agE g A j
def whN (P : Nat → Prop) (dp : ∀ t, Decidable (P t)) : Nat → Nat
  | 0 => 0
  | t + 1 => whN P dp t ||| @ite Nat (P t) (dp t) (2 ^ t) 0
theorem agN_n {g : (Nat → Nat) → Nat → Nat → Nat} {A : Nat → Nat} {j : Nat} (h : ¬ agE g A j) : ∀ n, j < n → ¬ agN g A n
  | 0, hn => by omega
  | n + 1, hn => by
    rintro ⟨h1, h2⟩
    by_cases e : j = n
    · exact h (e ▸ h2)
    · exact agN_n h n (by omega) h1
section Whose2
variable {sc : Sc} {d : Nat} {M : Nat → Nat → Int32}
theorem sp_agreeC {g : (Nat → Nat) → Nat → Nat → Nat} {A B : Nat → Nat} {J : Nat → Nat → Int64} {T : Option Nat} {t : Nat} (ht : t < 4) (hC : RntC M t g) (hg : gB g) (w : WW A B) : ∀ (m i : Nat) (I : Nat → Nat → Int32), i + m = A 7 → agN g A i → CI I A B → txI I = M → ∃ I', (∀ c k, c ≠ 69 ∧ c ≠ 70 → I' c k = I c k) ∧ ((agN g A (A 7) ∧ ∀ Q, Rn sc (d + 5) 155 2 [some (.ref 0), some (.ref (47 + 5 * t)), some (.int (nI i))] [] (K0, I, J, R1 T) Q = Q (some (.int (nI 1))) (K0, I', J, R1 T)) ∨ (¬ agN g A (A 7) ∧ ∀ Q, Rn sc (d + 5) 155 2 [some (.ref 0), some (.ref (47 + 5 * t)), some (.int (nI i))] [] (K0, I, J, R1 T) Q = Q (some (.int (nI 0))) (K0, I', J, R1 T))) := by
  have wA := w.1
  have w7 : A 7 ≤ 8 := wA.1.2.2.2.2.2.2.2.1
  intro m
  induction m with
  | zero =>
    intro i I hi ha cI eM
    obtain ⟨n1, n2, n3, n4, n5, n6⟩ := cI.2.2.2.2.1
    obtain rfl : i = A 7 := by omega
    refine ⟨I, fun _ _ _ => rfl, Or.inl ⟨ha, fun Q => ?_⟩⟩
    rw [x155_2]
    simp (disch := first | assumption | omega | decide) only [x155_0, x155_1, x155_3, x155_4, x155_5, x155_6, x155_7, x155_8, x155_9r, x155_9n, x155_10, x155_11, x155_12, x155_13, x155_14, x155_15, x155_16, x155_17, x155_18, x155_19, x155_20, x155_21, x155_22r, x155_22n, x155_23, x155_24, x155_25, x155_26, x155_27, x155_28, x155_29, x155_30, x155_31, x155_32, x155_33, x155_34, ↓reduceIte, Option.toList, List.nil_append, List.cons_append, nI_add, pk_mul, n_and, n_or, n_xor, nI_leI, nI_ltI, nI_eq, n_z, uI_s, uI_n, bI_n0, bI_n1, bT, bF, if_true, if_false, not_true, not_false_eq_true, pk_div, pk_rem, Nat.reduceEqDiff, Nat.reduceLeDiff, Nat.reduceLT, Nat.reduceAdd, Nat.reduceMul, Nat.reduceSub, Nat.not_lt_zero, Nat.zero_le, reduceCtorEq, ite_self, n_rem, and_self, and_true, true_and, and_false, false_and, n3, Nat.le_refl]
  | succ m ih =>
    intro i I hi ha cI eM
    obtain ⟨n1, n2, n3, n4, n5, n6⟩ := cI.2.2.2.2.1
    have hi7 : i < A 7 := by omega
    obtain ⟨v1, v2, v3⟩ := wA.2.2.2.1.2.2 i hi7
    obtain ⟨m1, m2, m3⟩ := n6 i hi7
    have li : ¬ A 7 ≤ i := by omega
    have i8 : i < 8 := by omega
    obtain ⟨I1, f1, q1⟩ := (hC sc d J T A I _ _ wA v1 v2 eM).1 cI.1
    rw [show LwC t = .ref (47 + 5 * t) from if_pos ht] at q1
    have c1 : CI I1 A B := CI_c w cI (fun c k hc => f1 c k (by omega))
    have m3' : I1 38 i = nI (A (95 + 3 * i + 2)) := (f1 _ _ (by omega)).trans m3
    have gb := hg A _ _ wA v1 v2
    by_cases c : agE g A i
    · obtain ⟨I2, f2, q2⟩ := ih (i + 1) I1 (by omega) ⟨ha, c⟩ c1 ((txI_c (fun c k hc => f1 c k (by omega))).trans eM)
      refine ⟨I2, fun c k hc => (f2 c k hc).trans (f1 c k hc), ?_⟩
      have c' : g A (A (95 + 3 * i)) (A (95 + 3 * i + 1)) = A (95 + 3 * i + 2) := c
      rcases q2 with ⟨a2, q2⟩ | ⟨a2, q2⟩
      · refine Or.inl ⟨a2, fun Q => ?_⟩
        rw [x155_2]
        simp (disch := first | assumption | omega | decide) only [x155_0, x155_1, x155_3, x155_4, x155_5, x155_6, x155_7, x155_8, x155_9r, x155_9n, x155_10, x155_11, x155_12, x155_13, x155_14, x155_15, x155_16, x155_17, x155_18, x155_19, x155_20, x155_21, x155_22r, x155_22n, x155_23, x155_24, x155_25, x155_26, x155_27, x155_28, x155_29, x155_30, x155_31, x155_32, x155_33, x155_34, ↓reduceIte, Option.toList, List.nil_append, List.cons_append, nI_add, pk_mul, n_and, n_or, n_xor, nI_leI, nI_ltI, nI_eq, n_z, uI_s, uI_n, bI_n0, bI_n1, bT, bF, if_true, if_false, not_true, not_false_eq_true, pk_div, pk_rem, Nat.reduceEqDiff, Nat.reduceLeDiff, Nat.reduceLT, Nat.reduceAdd, Nat.reduceMul, Nat.reduceSub, Nat.not_lt_zero, Nat.zero_le, reduceCtorEq, ite_self, n_rem, and_self, and_true, true_and, and_false, false_and, n3, li, m1, m2, m3', q1, c', q2, c2_r]
      · refine Or.inr ⟨a2, fun Q => ?_⟩
        rw [x155_2]
        simp (disch := first | assumption | omega | decide) only [x155_0, x155_1, x155_3, x155_4, x155_5, x155_6, x155_7, x155_8, x155_9r, x155_9n, x155_10, x155_11, x155_12, x155_13, x155_14, x155_15, x155_16, x155_17, x155_18, x155_19, x155_20, x155_21, x155_22r, x155_22n, x155_23, x155_24, x155_25, x155_26, x155_27, x155_28, x155_29, x155_30, x155_31, x155_32, x155_33, x155_34, ↓reduceIte, Option.toList, List.nil_append, List.cons_append, nI_add, pk_mul, n_and, n_or, n_xor, nI_leI, nI_ltI, nI_eq, n_z, uI_s, uI_n, bI_n0, bI_n1, bT, bF, if_true, if_false, not_true, not_false_eq_true, pk_div, pk_rem, Nat.reduceEqDiff, Nat.reduceLeDiff, Nat.reduceLT, Nat.reduceAdd, Nat.reduceMul, Nat.reduceSub, Nat.not_lt_zero, Nat.zero_le, reduceCtorEq, ite_self, n_rem, and_self, and_true, true_and, and_false, false_and, n3, li, m1, m2, m3', q1, c', q2, c2_r]
    · have c' : ¬ g A (A (95 + 3 * i)) (A (95 + 3 * i + 1)) = A (95 + 3 * i + 2) := c
      refine ⟨I1, f1, Or.inr ⟨agN_n c _ hi7, fun Q => ?_⟩⟩
      rw [x155_2]
      simp (disch := first | assumption | omega | decide) only [x155_0, x155_1, x155_3, x155_4, x155_5, x155_6, x155_7, x155_8, x155_9r, x155_9n, x155_10, x155_11, x155_12, x155_13, x155_14, x155_15, x155_16, x155_17, x155_18, x155_19, x155_20, x155_21, x155_22r, x155_22n, x155_23, x155_24, x155_25, x155_26, x155_27, x155_28, x155_29, x155_30, x155_31, x155_32, x155_33, x155_34, ↓reduceIte, Option.toList, List.nil_append, List.cons_append, nI_add, pk_mul, n_and, n_or, n_xor, nI_leI, nI_ltI, nI_eq, n_z, uI_s, uI_n, bI_n0, bI_n1, bT, bF, if_true, if_false, not_true, not_false_eq_true, pk_div, pk_rem, Nat.reduceEqDiff, Nat.reduceLeDiff, Nat.reduceLT, Nat.reduceAdd, Nat.reduceMul, Nat.reduceSub, Nat.not_lt_zero, Nat.zero_le, reduceCtorEq, ite_self, n_rem, and_self, and_true, true_and, and_false, false_and, n3, li, m1, m2, m3', q1, c']
theorem sp_agreeM {g : (Nat → Nat) → Nat → Nat → Nat} {A : Nat → Nat} {I : Nat → Nat → Int32} {J : Nat → Nat → Int64} {T : Option Nat} {t v : Nat} (ht : t < 4) (hM : RntM M t g) (hg : gB g) (w : Wf A) (m : AtM I 90 A) (eM : txI I = M) (dp : ∀ j, Decidable (agN g A j)) : ∃ I' J', (∀ c k, c ≠ 95 ∧ c ≠ 97 → I' c k = I c k) ∧ ∀ Q, Rn sc (d + 6) 302 14 [some (.ref 89), some (.int (nI v)), some (.int (nI t)), some (.int (nI 1)), some (.int (nI 95))] [] (K0, I, J, R1 T) Q = Rn sc (d + 6) 302 14 [some (.ref 89), some (.int (nI v)), some (.int (nI t)), some (.int (@bI (agN g A (A 7)) (dp _))), some (.int (nI (95 + 3 * A 7)))] [] (K0, I', J', R1 T) Q := by
  have w7 : A 7 ≤ 8 := w.1.2.2.2.2.2.2.2.1
  obtain ⟨⟨I', J'⟩, h1, h3⟩ := iterE (St := (Nat → Nat → Int32) × (Nat → Nat → Int64)) (fun (_ : Nat) s => ∀ c k, c ≠ 95 ∧ c ≠ 97 → s.1 c k = I c k) (fun j s => fun Q => Rn sc (d + 6) 302 14 [some (.ref 89), some (.int (nI v)), some (.int (nI t)), some (.int (@bI (agN g A j) (dp j))), some (.int (nI (95 + 3 * j)))] [] (K0, s.1, s.2, R1 T) Q) (A 7) (by
    rintro j ⟨I1, J1⟩ hj f1
    have f1 : ∀ c k, c ≠ 95 ∧ c ≠ 97 → I1 c k = I c k := f1
    have m1 : AtM I1 90 A := AtM_c m (fun k => f1 _ _ (by omega))
    have m' : ∀ k, k < 1799 → I1 90 k = nI (A k) := m1
    obtain ⟨v1, v2, v3⟩ := w.2.2.2.1.2.2 j hj
    have lj : ¬ 95 + 3 * A 7 ≤ 95 + 3 * j := by omega
    have e3 : 95 + 3 * (j + 1) = 95 + 3 * j + 3 := by omega
    by_cases ha : agN g A j
    · obtain ⟨I2, J2, f2, q2⟩ := hM sc d J1 T A I1 _ _ w v1 v2 ((txI_c (fun c k hc => f1 c k (by omega))).trans eM) m1
      have m2 : I2 90 (95 + 3 * j + 2) = nI (A (95 + 3 * j + 2)) := (f2 _ _ (by omega)).trans (m' _ (by omega))
      have gb := hg A _ _ w v1 v2
      refine ⟨(I2, J2), fun c k hc => (f2 c k hc).trans (f1 c k hc), funext fun Q => ?_⟩
      show Rn _ _ _ _ _ _ _ _ = Rn _ _ _ _ _ _ _ _
      rw [x302_14, bI_t ha, e3]
      by_cases c : agE g A j
      · have c' : g A (A (95 + 3 * j)) (A (95 + 3 * j + 1)) = A (95 + 3 * j + 2) := c
        rw [bI_t (show agN g A (j + 1) from ⟨ha, c⟩)]
        simp (disch := first | assumption | omega | decide) only [x302_0, x302_1, x302_2, x302_3, x302_5, x302_6, x302_7, x302_8, x302_9, x302_10, x302_11, x302_12, x302_13, x302_15, x302_16, x302_17, x302_18, x302_19, x302_20, x302_21, x302_22, x302_23, x302_24, x302_25, x302_26, x302_27, x302_28, x302_29, x302_30, x302_31, x302_32, x302_33, x302_34, x302_35, x302_36, x302_37, x302_38, x302_39, x302_40, x302_41, x302_42, x302_43, x302_44, x302_45, x302_46, x302_47, x302_48, x302_49, x302_50, x302_51, x302_52, x302_53, x302_54, x302_55, x302_56, x302_57, x302_58, x302_59, x302_60, x302_61, x302_62, x302_63, x302_64, x302_65, ↓reduceIte, Option.toList, List.nil_append, List.cons_append, nI_add, pk_mul, n_and, n_or, n_xor, nI_leI, nI_ltI, nI_eq, n_z, uI_s, uI_n, bI_n0, bI_n1, bT, bF, if_true, if_false, not_true, not_false_eq_true, pk_div, pk_rem, Nat.reduceEqDiff, Nat.reduceLeDiff, Nat.reduceLT, Nat.reduceAdd, Nat.reduceMul, Nat.reduceSub, Nat.not_lt_zero, Nat.zero_le, reduceCtorEq, ite_self, n_rem, and_self, and_true, true_and, and_false, false_and, lj, m', m2, q2, c']
      · have c' : ¬ g A (A (95 + 3 * j)) (A (95 + 3 * j + 1)) = A (95 + 3 * j + 2) := c
        rw [bI_f (show ¬ agN g A (j + 1) from fun h => c h.2)]
        simp (disch := first | assumption | omega | decide) only [x302_0, x302_1, x302_2, x302_3, x302_5, x302_6, x302_7, x302_8, x302_9, x302_10, x302_11, x302_12, x302_13, x302_15, x302_16, x302_17, x302_18, x302_19, x302_20, x302_21, x302_22, x302_23, x302_24, x302_25, x302_26, x302_27, x302_28, x302_29, x302_30, x302_31, x302_32, x302_33, x302_34, x302_35, x302_36, x302_37, x302_38, x302_39, x302_40, x302_41, x302_42, x302_43, x302_44, x302_45, x302_46, x302_47, x302_48, x302_49, x302_50, x302_51, x302_52, x302_53, x302_54, x302_55, x302_56, x302_57, x302_58, x302_59, x302_60, x302_61, x302_62, x302_63, x302_64, x302_65, ↓reduceIte, Option.toList, List.nil_append, List.cons_append, nI_add, pk_mul, n_and, n_or, n_xor, nI_leI, nI_ltI, nI_eq, n_z, uI_s, uI_n, bI_n0, bI_n1, bT, bF, if_true, if_false, not_true, not_false_eq_true, pk_div, pk_rem, Nat.reduceEqDiff, Nat.reduceLeDiff, Nat.reduceLT, Nat.reduceAdd, Nat.reduceMul, Nat.reduceSub, Nat.not_lt_zero, Nat.zero_le, reduceCtorEq, ite_self, n_rem, and_self, and_true, true_and, and_false, false_and, lj, m', m2, q2, c']
    · refine ⟨(I1, J1), f1, funext fun Q => ?_⟩
      show Rn _ _ _ _ _ _ _ _ = Rn _ _ _ _ _ _ _ _
      rw [x302_14, bI_f ha, bI_f (show ¬ agN g A (j + 1) from fun h => ha h.1), e3]
      simp (disch := first | assumption | omega | decide) only [x302_0, x302_1, x302_2, x302_3, x302_5, x302_6, x302_7, x302_8, x302_9, x302_10, x302_11, x302_12, x302_13, x302_15, x302_16, x302_17, x302_18, x302_19, x302_20, x302_21, x302_22, x302_23, x302_24, x302_25, x302_26, x302_27, x302_28, x302_29, x302_30, x302_31, x302_32, x302_33, x302_34, x302_35, x302_36, x302_37, x302_38, x302_39, x302_40, x302_41, x302_42, x302_43, x302_44, x302_45, x302_46, x302_47, x302_48, x302_49, x302_50, x302_51, x302_52, x302_53, x302_54, x302_55, x302_56, x302_57, x302_58, x302_59, x302_60, x302_61, x302_62, x302_63, x302_64, x302_65, ↓reduceIte, Option.toList, List.nil_append, List.cons_append, nI_add, pk_mul, n_and, n_or, n_xor, nI_leI, nI_ltI, nI_eq, n_z, uI_s, uI_n, bI_n0, bI_n1, bT, bF, if_true, if_false, not_true, not_false_eq_true, pk_div, pk_rem, Nat.reduceEqDiff, Nat.reduceLeDiff, Nat.reduceLT, Nat.reduceAdd, Nat.reduceMul, Nat.reduceSub, Nat.not_lt_zero, Nat.zero_le, reduceCtorEq, ite_self, n_rem, and_self, and_true, true_and, and_false, false_and, lj, m']) (I, J) (fun _ _ _ => rfl)
  refine ⟨I', J', h1, fun Q => ?_⟩
  refine Eq.trans ?_ (congrFun h3 Q)
  show Rn _ _ _ _ _ _ _ _ = Rn _ _ _ _ _ _ _ _
  simp only [bI_t (show agN g A 0 from trivial), Nat.mul_zero, Nat.add_zero]
theorem jt_whose : Jt TXp sc (d + 6) 154 302 [some (.ref 0), none, none] [some (.ref 89), none, none, none, none] := by
  intro A B M w hX
  have w' := w
  obtain ⟨wA, wB, wt⟩ := w
  have w2 : A 2 ≤ 4 := wA.1.2.2.1
  have w7 : A 7 ≤ 8 := wA.1.2.2.2.2.2.2.2.1
  have hE : ∀ t, ∃ g, t < A 2 → RntC M t g ∧ RntM M t g ∧ gB g := by
    intro t
    by_cases ht : t < A 2
    · obtain ⟨g, hC, hM, hg⟩ := rnt_ex (Or.inr ⟨by omega, hX t ht⟩)
      exact ⟨g, fun _ => ⟨hC, hM, hg⟩⟩
    · exact ⟨fun _ _ _ => 0, fun h => absurd h ht⟩
  obtain ⟨G, hG⟩ := Classical.axiomOfChoice hE
  have dq : ∀ t j, Decidable (agN (G t) A j) := fun t j => Classical.propDecidable _
  have dp : ∀ t, Decidable (agN (G t) A (A 7)) := fun t => dq t (A 7)
  refine ⟨nI (whN (fun t => agN (G t) A (A 7)) dp (A 2)), A, B, w', Nat.le_refl _, ?_, ?_⟩
  · intro I J T cI eM
    obtain ⟨I', h1, h3⟩ := iterE (fun (_ : Nat) I' => ∀ c k, c ≠ 69 ∧ c ≠ 70 → I' c k = I c k) (fun j I' => fun Q => Rn sc (d + 6) 154 4 [some (.ref 0), some (.int (nI (whN (fun t => agN (G t) A (A 7)) dp j))), some (.int (nI j))] [] (K0, I', J, R1 T) Q) (A 2) (by
      rintro j I1 hj f1
      have c1 : CI I1 A B := CI_c w' cI (fun c k hc => f1 c k (by omega))
      obtain ⟨g1, g2, g3⟩ := hG j hj
      obtain ⟨I2, f2, q2⟩ := sp_agreeC (sc := sc) (d := d) (J := J) (T := T) (by omega) g1 g3 w' (A 7) 0 I1 (by omega) trivial c1 ((txI_c (fun c k hc => f1 c k (by omega))).trans eM)
      have lj : ¬ A 2 ≤ j := by omega
      refine ⟨I2, fun c k hc => (f2 c k hc).trans (f1 c k hc), funext fun Q => ?_⟩
      show Rn _ _ _ _ _ _ _ _ = Rn _ _ _ _ _ _ _ _
      rw [x154_4, whN]
      rcases q2 with ⟨a2, q2⟩ | ⟨a2, q2⟩
      · rw [if_pos a2]
        simp (disch := first | assumption | omega | decide) only [x154_0, x154_1, x154_2, x154_3, x154_5, x154_6, x154_7, x154_8, x154_9, x154_10, x154_11, x154_12, x154_13, x154_14r, x154_14n, x154_15, x154_16, x154_17, x154_18, x154_19, x154_20, x154_21, x154_22, x154_23, x154_24, x154_25, x155_0, x155_1, ↓reduceIte, Option.toList, List.nil_append, List.cons_append, nI_add, pk_mul, n_and, n_or, n_xor, nI_leI, nI_ltI, nI_eq, n_z, uI_s, uI_n, bI_n0, bI_n1, bT, bF, if_true, if_false, not_true, not_false_eq_true, pk_div, pk_rem, Nat.reduceEqDiff, Nat.reduceLeDiff, Nat.reduceLT, Nat.reduceAdd, Nat.reduceMul, Nat.reduceSub, Nat.not_lt_zero, Nat.zero_le, reduceCtorEq, ite_self, n_rem, and_self, and_true, true_and, and_false, false_and, tw_texts c1.1, lj, vr_46 (show j < 4 by omega), c2_r, q2, n_one]
      · rw [if_neg a2, Nat.or_zero]
        simp (disch := first | assumption | omega | decide) only [x154_0, x154_1, x154_2, x154_3, x154_5, x154_6, x154_7, x154_8, x154_9, x154_10, x154_11, x154_12, x154_13, x154_14r, x154_14n, x154_15, x154_16, x154_17, x154_18, x154_19, x154_20, x154_21, x154_22, x154_23, x154_24, x154_25, x155_0, x155_1, ↓reduceIte, Option.toList, List.nil_append, List.cons_append, nI_add, pk_mul, n_and, n_or, n_xor, nI_leI, nI_ltI, nI_eq, n_z, uI_s, uI_n, bI_n0, bI_n1, bT, bF, if_true, if_false, not_true, not_false_eq_true, pk_div, pk_rem, Nat.reduceEqDiff, Nat.reduceLeDiff, Nat.reduceLT, Nat.reduceAdd, Nat.reduceMul, Nat.reduceSub, Nat.not_lt_zero, Nat.zero_le, reduceCtorEq, ite_self, n_rem, and_self, and_true, true_and, and_false, false_and, tw_texts c1.1, lj, vr_46 (show j < 4 by omega), c2_r, q2]) I (fun _ _ _ => rfl)
    have c1 : CI I' A B := CI_c w' cI (fun c k hc => h1 c k (by omega))
    refine ⟨I', fun c k hc => h1 c k (by omega), c1, fun Q => ?_⟩
    have h3' := congrFun h3 Q
    simp (disch := first | assumption | omega | decide) only [x154_0, x154_1, x154_2, x154_3, x154_5, x154_6, x154_7, x154_8, x154_9, x154_10, x154_11, x154_12, x154_13, x154_14r, x154_14n, x154_15, x154_16, x154_17, x154_18, x154_19, x154_20, x154_21, x154_22, x154_23, x154_24, x154_25]
    refine Eq.trans h3' ?_
    show Rn _ _ _ _ _ _ _ _ = _
    rw [x154_4]
    simp (disch := first | assumption | omega | decide) only [x154_0, x154_1, x154_2, x154_3, x154_5, x154_6, x154_7, x154_8, x154_9, x154_10, x154_11, x154_12, x154_13, x154_14r, x154_14n, x154_15, x154_16, x154_17, x154_18, x154_19, x154_20, x154_21, x154_22, x154_23, x154_24, x154_25, ↓reduceIte, Option.toList, List.nil_append, List.cons_append, nI_add, pk_mul, n_and, n_or, n_xor, nI_leI, nI_ltI, nI_eq, n_z, uI_s, uI_n, bI_n0, bI_n1, bT, bF, if_true, if_false, not_true, not_false_eq_true, pk_div, pk_rem, Nat.reduceEqDiff, Nat.reduceLeDiff, Nat.reduceLT, Nat.reduceAdd, Nat.reduceMul, Nat.reduceSub, Nat.not_lt_zero, Nat.zero_le, reduceCtorEq, ite_self, n_rem, and_self, and_true, true_and, and_false, false_and, tw_texts c1.1, Nat.le_refl]
  · intro I J T mI eM
    obtain ⟨⟨I', J', u3, u4⟩, h1, h3⟩ := iterE (St := (Nat → Nat → Int32) × (Nat → Nat → Int64) × Option Value × Option Value) (fun (_ : Nat) s => ∀ c k, c ≠ 95 ∧ c ≠ 97 → s.1 c k = I c k) (fun j s => fun Q => Rn sc (d + 6) 302 4 [some (.ref 89), some (.int (nI (whN (fun t => agN (G t) A (A 7)) dp j))), some (.int (nI j)), s.2.2.1, s.2.2.2] [] (K0, s.1, s.2.1, R1 T) Q) (A 2) (by
      rintro j ⟨I1, J1, u3, u4⟩ hj f1
      have f1 : ∀ c k, c ≠ 95 ∧ c ≠ 97 → I1 c k = I c k := f1
      have m1 : AtM I1 90 A := AtM_c mI.1 (fun k => f1 _ _ (by omega))
      obtain ⟨g1, g2, g3⟩ := hG j hj
      obtain ⟨I2, J2, f2, q2⟩ := sp_agreeM (sc := sc) (d := d) (J := J1) (T := T) (v := whN (fun t => agN (G t) A (A 7)) dp j) (by omega) g2 g3 wA m1 ((txI_c (fun c k hc => f1 c k (by omega))).trans eM) (dq j)
      have e2 : I1 90 2 = nI (A 2) := m1 2 (by decide)
      have e7 : I2 90 7 = nI (A 7) := (f2 _ _ (by omega)).trans (m1 7 (by decide))
      have lj : ¬ A 2 ≤ j := by omega
      refine ⟨(I2, J2, some (.int (@bI (agN (G j) A (A 7)) (dq j _))), some (.int (nI (95 + 3 * A 7)))), fun c k hc => (f2 c k hc).trans (f1 c k hc), funext fun Q => ?_⟩
      show Rn _ _ _ _ _ _ _ _ = Rn _ _ _ _ _ _ _ _
      rw [x302_4, whN]
      simp (disch := first | assumption | omega | decide) only [x302_5, x302_6, x302_7, x302_8, x302_9, x302_10, x302_11, x302_12, x302_13, ↓reduceIte, Option.toList, List.nil_append, List.cons_append, nI_add, pk_mul, n_and, n_or, n_xor, nI_leI, nI_ltI, nI_eq, n_z, uI_s, uI_n, bI_n0, bI_n1, bT, bF, if_true, if_false, not_true, not_false_eq_true, pk_div, pk_rem, Nat.reduceEqDiff, Nat.reduceLeDiff, Nat.reduceLT, Nat.reduceAdd, Nat.reduceMul, Nat.reduceSub, Nat.not_lt_zero, Nat.zero_le, reduceCtorEq, ite_self, n_rem, and_self, and_true, true_and, and_false, false_and, e2, lj, q2]
      rw [x302_14]
      by_cases c : agN (G j) A (A 7)
      · rw [if_pos c, show @bI (agN (G j) A (A 7)) (dq j (A 7)) = nI 1 from if_pos c]
        simp (disch := first | assumption | omega | decide) only [x302_15, x302_16, x302_17, x302_18, x302_19, x302_20, x302_21, x302_22, x302_23, x302_24, x302_25, x302_26, x302_27, x302_28, x302_29, x302_30, x302_31, x302_32, x302_33, x302_34, x302_35, x302_36, x302_37, x302_38, x302_39, x302_40, x302_41, x302_42, x302_43, x302_44, x302_45, x302_46, x302_47, x302_48, x302_49, x302_50, x302_51, x302_52, x302_53, x302_54, x302_55, x302_56, x302_57, x302_58, x302_59, x302_60, x302_61, x302_62, x302_63, ↓reduceIte, Option.toList, List.nil_append, List.cons_append, nI_add, pk_mul, n_and, n_or, n_xor, nI_leI, nI_ltI, nI_eq, n_z, uI_s, uI_n, bI_n0, bI_n1, bT, bF, if_true, if_false, not_true, not_false_eq_true, pk_div, pk_rem, Nat.reduceEqDiff, Nat.reduceLeDiff, Nat.reduceLT, Nat.reduceAdd, Nat.reduceMul, Nat.reduceSub, Nat.not_lt_zero, Nat.zero_le, reduceCtorEq, ite_self, n_rem, and_self, and_true, true_and, and_false, false_and, e7, Nat.le_refl, n_one]
      · rw [if_neg c, show @bI (agN (G j) A (A 7)) (dq j (A 7)) = nI 0 from if_neg c]
        simp (disch := first | assumption | omega | decide) only [x302_15, x302_16, x302_17, x302_18, x302_19, x302_20, x302_21, x302_22, x302_23, x302_24, x302_25, x302_26, x302_27, x302_28, x302_29, x302_30, x302_31, x302_32, x302_33, x302_34, x302_35, x302_36, x302_37, x302_38, x302_39, x302_40, x302_41, x302_42, x302_43, x302_44, x302_45, x302_46, x302_47, x302_48, x302_49, x302_50, x302_51, x302_52, x302_53, x302_54, x302_55, x302_56, x302_57, x302_58, x302_59, x302_60, x302_61, x302_62, x302_63, ↓reduceIte, Option.toList, List.nil_append, List.cons_append, nI_add, pk_mul, n_and, n_or, n_xor, nI_leI, nI_ltI, nI_eq, n_z, uI_s, uI_n, bI_n0, bI_n1, bT, bF, if_true, if_false, not_true, not_false_eq_true, pk_div, pk_rem, Nat.reduceEqDiff, Nat.reduceLeDiff, Nat.reduceLT, Nat.reduceAdd, Nat.reduceMul, Nat.reduceSub, Nat.not_lt_zero, Nat.zero_le, reduceCtorEq, ite_self, n_rem, and_self, and_true, true_and, and_false, false_and, e7, Nat.le_refl]) (I, J, none, none) (fun _ _ _ => rfl)
    have c1 : MI I' A B := MI_c mI (fun c k hc => h1 c k (by omega)) (h1 _ _ (by omega))
    have e2 : I' 90 2 = nI (A 2) := c1.1 2 (by decide)
    refine ⟨I', J', ⟨fun c k hc => h1 c k (by omega), fun k hk => h1 _ _ (by omega)⟩, c1, fun Q => ?_⟩
    have h3' := congrFun h3 Q
    simp (disch := first | assumption | omega | decide) only [x302_0, x302_1, x302_2, x302_3]
    refine Eq.trans h3' ?_
    show Rn _ _ _ _ _ _ _ _ = _
    rw [x302_4]
    simp (disch := first | assumption | omega | decide) only [x302_5, x302_6, x302_7, x302_8, x302_9, x302_64, x302_65, ↓reduceIte, Option.toList, List.nil_append, List.cons_append, nI_add, pk_mul, n_and, n_or, n_xor, nI_leI, nI_ltI, nI_eq, n_z, uI_s, uI_n, bI_n0, bI_n1, bT, bF, if_true, if_false, not_true, not_false_eq_true, pk_div, pk_rem, Nat.reduceEqDiff, Nat.reduceLeDiff, Nat.reduceLT, Nat.reduceAdd, Nat.reduceMul, Nat.reduceSub, Nat.not_lt_zero, Nat.zero_le, reduceCtorEq, ite_self, n_rem, and_self, and_true, true_and, and_false, false_and, e2, Nat.le_refl]
end Whose2
