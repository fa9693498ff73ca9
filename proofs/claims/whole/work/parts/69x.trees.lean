/-! trees: the elimination of the class, the count of the reference -/
def iI (z : Int) : Int32 := Int32.ofInt z
theorem iI_t {z : Int} (h1 : -86093442 ≤ z) (h2 : z ≤ 86093442) : (iI z).toInt = z := Int32.toInt_ofInt_of_le (by omega) (by omega)
theorem iI_n {n : Nat} (h : n ≤ 86093442) : iI (n : Int) = nI n := by
  apply Int32.toInt_inj.1
  rw [iI_t (by omega) (by omega), nI_toInt (by omega)]
theorem iI_m {a b : Int} : iI a * iI b = iI (a * b) := (Int32.ofInt_mul a b).symm
theorem iI_s {a b : Int} : iI a - iI b = iI (a - b) := (Int32.ofInt_sub a b).symm
theorem iI_nz {z : Int} (h1 : -86093442 ≤ z) (h2 : z ≤ 86093442) (h0 : z ≠ 0) : ¬ iI z = 0 := by
  intro e
  have e2 := congrArg Int32.toInt e
  rw [iI_t h1 h2] at e2
  have e3 : (0 : Int32).toInt = 0 := by decide
  omega
theorem iI_d {x d q : Int} (h1 : -86093442 ≤ x) (h2 : x ≤ 86093442) (h3 : 0 < d) (h4 : d ≤ 6561) (e : d * q = x) : iI x / iI d = iI q := by
  have hd : d ≠ 0 := by omega
  have e1 : x.tdiv d = q := by
    rw [← e]
    exact Int.mul_tdiv_cancel_left q hd
  rw [← e1]
  have a1 : Int32.minValue.toInt = -2147483648 := by decide
  have a2 : Int32.maxValue.toInt = 2147483647 := by decide
  exact (Int32.ofInt_tdiv (by omega) (by omega) (by omega) (by omega)).symm
section Trees
variable {TX : (Nat → Nat → Int32) → Nat → Prop} {sc : Sc} {d : Nat} {J : Nat → Nat → Int64} {T : Option Nat} {A : Nat → Nat}
theorem sp_fillrow {I : Nat → Nat → Int32} {i : Nat} (w : Wf A) (hi : i < 7) (eB : BsC I A) : ∃ I', (∀ c k, c ≠ 76 ∨ k < i * 7 ∨ i * 7 + 7 ≤ k → I' c k = I c k) ∧ (∀ j, j < 7 → I' 76 (i * 7 + j) = iI (lpM A i j)) ∧ ∀ (u : Option Value) Q, Rn sc (d + 1) 70 2 [some (.ref 72), some (.int (nI i)), u] [] (K0, I, J, R1 T) Q = Rn sc (d + 1) 70 2 [some (.ref 72), some (.int (nI (i + 1))), some (.int (nI 7))] [] (K0, I', J, R1 T) Q := by
  obtain ⟨I2, ⟨f2, k2⟩, h2⟩ := iterE (fun j I' => (∀ c k, c ≠ 76 ∨ k < i * 7 ∨ i * 7 + 7 ≤ k → I' c k = I c k) ∧ ∀ j', j' < j → I' 76 (i * 7 + j') = iI (if (bes A i).testBit j' = true then -1 else 0)) (fun j I' => fun Q => Rn sc (d + 1) 70 7 [some (.ref 72), some (.int (nI i)), some (.int (nI j))] [] (K0, I', J, R1 T) Q) 7 (by
    rintro j I1 hj ⟨f1, k1⟩
    have lj : ¬ 7 ≤ j := by omega
    have eB1 : BsC I1 A := fun h hh => (f1 _ _ (by omega)).trans (eB h hh)
    have sj := fun Q => sp_joins (sc := sc) (d := d) (J := J) (T := T) (Q := Q) (show i < 8 by omega) (show j < 8 by omega) w eB1
    refine ⟨uI I1 76 (i * 7 + j) (iI (if (bes A i).testBit j = true then -1 else 0)), ⟨fun c k hc => (uI_n (by omega)).trans (f1 c k hc), fun j' hj' => ?_⟩, funext fun Q => ?_⟩
    · by_cases e : j' = j
      · rw [e, uI_s]
      · rw [uI_n (by omega)]
        exact k1 j' (by omega)
    · show Rn _ _ _ _ _ _ _ _ = Rn _ _ _ _ _ _ _ _
      rw [x70_7]
      by_cases c : bes A i / 2 ^ j % 2 = 1
      · have e1 : iI (if (bes A i).testBit j = true then -1 else 0) = -1 := by
          rw [if_pos (tb_iff.mp c)]
          rfl
        rw [e1]
        simp (disch := first | assumption | omega | decide) only [x70_8, x70_9, x70_10, x70_11, x70_12, x70_13, x70_14, x70_15, x70_16, x70_17, x70_18, x70_19, x70_20, x70_21, x70_22, x70_23, x70_24, x70_25, x70_26, x70_27, ↓reduceIte, Option.toList, List.nil_append, List.cons_append, nI_add, pk_mul, n_and, n_or, n_xor, nI_leI, nI_ltI, nI_eq, n_z, uI_s, uI_n, bI_n0, bI_n1, bT, bF, if_true, if_false, not_true, not_false_eq_true, pk_div, pk_rem, Nat.reduceEqDiff, Nat.reduceLeDiff, Nat.reduceLT, Nat.reduceAdd, Nat.reduceMul, Nat.reduceSub, Nat.not_lt_zero, Nat.zero_le, reduceCtorEq, ite_self, n_rem, and_self, and_true, true_and, and_false, false_and, lj, sj, c]
      · have e1 : iI (if (bes A i).testBit j = true then -1 else 0) = nI 0 := by
          rw [if_neg (fun h => c (tb_iff.mpr h))]
          rfl
        rw [e1]
        simp (disch := first | assumption | omega | decide) only [x70_8, x70_9, x70_10, x70_11, x70_12, x70_13, x70_14, x70_15, x70_16, x70_17, x70_18, x70_19, x70_20, x70_21, x70_22, x70_23, x70_24, x70_25, x70_26, x70_27, ↓reduceIte, Option.toList, List.nil_append, List.cons_append, nI_add, pk_mul, n_and, n_or, n_xor, nI_leI, nI_ltI, nI_eq, n_z, uI_s, uI_n, bI_n0, bI_n1, bT, bF, if_true, if_false, not_true, not_false_eq_true, pk_div, pk_rem, Nat.reduceEqDiff, Nat.reduceLeDiff, Nat.reduceLT, Nat.reduceAdd, Nat.reduceMul, Nat.reduceSub, Nat.not_lt_zero, Nat.zero_le, reduceCtorEq, ite_self, n_rem, and_self, and_true, true_and, and_false, false_and, lj, sj, c]) I ⟨fun _ _ _ => rfl, fun j hj => by omega⟩
  have p8 := pc_8 _ (bes_lt (h := i) w)
  have l8 : bes A i < 256 := bes_lt w
  have e0 : I2 4 i = nI (bes A i) := (f2 _ _ (by omega)).trans (eB i (by omega))
  have i7 : ¬ 7 ≤ i := by omega
  refine ⟨uI I2 76 (i * 7 + i) (nI (pcN (bes A i))), fun c k hc => (uI_n (by omega)).trans (f2 c k hc), fun j hj => ?_, fun u Q => ?_⟩
  · unfold lpM
    by_cases e : i = j
    · subst e
      rw [uI_s, if_pos rfl, iI_n (by omega)]
    · rw [uI_n (by omega), if_neg e]
      exact k2 j hj
  · have h2' := congrFun h2 Q
    rw [x70_2]
    simp (disch := first | assumption | omega | decide) only [x70_3, x70_4, x70_5, x70_6, ↓reduceIte, Option.toList, List.nil_append, List.cons_append, nI_add, pk_mul, n_and, n_or, n_xor, nI_leI, nI_ltI, nI_eq, n_z, uI_s, uI_n, bI_n0, bI_n1, bT, bF, if_true, if_false, not_true, not_false_eq_true, pk_div, pk_rem, Nat.reduceEqDiff, Nat.reduceLeDiff, Nat.reduceLT, Nat.reduceAdd, Nat.reduceMul, Nat.reduceSub, Nat.not_lt_zero, Nat.zero_le, reduceCtorEq, ite_self, n_rem, and_self, and_true, true_and, and_false, false_and, i7]
    refine Eq.trans h2' ?_
    show Rn _ _ _ _ _ _ _ _ = _
    rw [x70_7]
    simp (disch := first | assumption | omega | decide) only [x70_8, x70_9, x70_28, x70_29, x70_30, x70_31, x70_32, x70_33, x70_34, x70_35, x70_36, x70_37, x70_38, x70_39, x70_40, x70_41, x70_42, x70_43, ↓reduceIte, Option.toList, List.nil_append, List.cons_append, nI_add, pk_mul, n_and, n_or, n_xor, nI_leI, nI_ltI, nI_eq, n_z, uI_s, uI_n, bI_n0, bI_n1, bT, bF, if_true, if_false, not_true, not_false_eq_true, pk_div, pk_rem, Nat.reduceEqDiff, Nat.reduceLeDiff, Nat.reduceLT, Nat.reduceAdd, Nat.reduceMul, Nat.reduceSub, Nat.not_lt_zero, Nat.zero_le, reduceCtorEq, ite_self, n_rem, and_self, and_true, true_and, and_false, false_and, Nat.le_refl, e0, sp_bitCount]
theorem sp_fill {I : Nat → Nat → Int32} (w : Wf A) (eB : BsC I A) : ∃ I', (∀ c k, c ≠ 76 → I' c k = I c k) ∧ (∀ i j, i < 7 → j < 7 → I' 76 (i * 7 + j) = iI (lpM A i j)) ∧ ∀ Q, Rn sc (d + 1) 70 0 [some (.ref 72), none, none] [] (K0, I, J, R1 T) Q = Q none (K0, I', J, R1 T) := by
  obtain ⟨⟨I2, u2⟩, ⟨f2, k2⟩, h2⟩ := iterE (St := (Nat → Nat → Int32) × Option Value) (fun i s => (∀ c k, c ≠ 76 → s.1 c k = I c k) ∧ ∀ i' j, i' < i → j < 7 → s.1 76 (i' * 7 + j) = iI (lpM A i' j)) (fun i s => fun Q => Rn sc (d + 1) 70 2 [some (.ref 72), some (.int (nI i)), s.2] [] (K0, s.1, J, R1 T) Q) 7 (by
    rintro i ⟨I1, u1⟩ hi ⟨f1, k1⟩
    obtain ⟨I2, f2, k2, q2⟩ := sp_fillrow (sc := sc) (d := d) (J := J) (T := T) (I := I1) w hi (fun h hh => (f1 _ _ (by omega)).trans (eB h hh))
    refine ⟨(I2, some (.int (nI 7))), ⟨fun c k hc => (f2 c k (by omega)).trans (f1 c k hc), fun i' j hi' hj => ?_⟩, funext fun Q => q2 u1 Q⟩
    by_cases e : i' = i
    · subst e
      exact k2 j hj
    · exact (f2 76 _ (by omega)).trans (k1 i' j (by omega) hj)) (I, none) ⟨fun _ _ _ => rfl, fun i j hi => by omega⟩
  refine ⟨I2, f2, fun i j hi hj => k2 i j hi hj, fun Q => ?_⟩
  have h2' := congrFun h2 Q
  simp (disch := first | assumption | omega | decide) only [x70_0, x70_1, ↓reduceIte, Option.toList, List.nil_append, List.cons_append, nI_add, pk_mul, n_and, n_or, n_xor, nI_leI, nI_ltI, nI_eq, n_z, uI_s, uI_n, bI_n0, bI_n1, bT, bF, if_true, if_false, not_true, not_false_eq_true, pk_div, pk_rem, Nat.reduceEqDiff, Nat.reduceLeDiff, Nat.reduceLT, Nat.reduceAdd, Nat.reduceMul, Nat.reduceSub, Nat.not_lt_zero, Nat.zero_le, reduceCtorEq, ite_self, n_rem, and_self, and_true, true_and, and_false, false_and]
  refine Eq.trans h2' ?_
  show Rn _ _ _ _ _ _ _ _ = _
  rw [x70_2]
  simp (disch := first | assumption | omega | decide) only [x70_3, x70_4, x70_44, ↓reduceIte, Option.toList, List.nil_append, List.cons_append, nI_add, pk_mul, n_and, n_or, n_xor, nI_leI, nI_ltI, nI_eq, n_z, uI_s, uI_n, bI_n0, bI_n1, bT, bF, if_true, if_false, not_true, not_false_eq_true, pk_div, pk_rem, Nat.reduceEqDiff, Nat.reduceLeDiff, Nat.reduceLT, Nat.reduceAdd, Nat.reduceMul, Nat.reduceSub, Nat.not_lt_zero, Nat.zero_le, reduceCtorEq, ite_self, n_rem, and_self, and_true, true_and, and_false, false_and, Nat.le_refl]
/-- the matrix while step k goes on: done before row i, and in it before column j -/
def NwI (A : Nat → Nat) (k i j : Nat) (I : Nat → Nat → Int32) : Prop := ∀ a b, k ≤ a → a < 7 → k ≤ b → b < 7 → I 76 (a * 7 + b) = iI (if k < a ∧ k < b ∧ (a < i ∨ (a = i ∧ b < j)) then (mB (lpM A) (k + 1)).1 a b else (mB (lpM A) k).1 a b)
theorem nw_c {k i j i' j' : Nat} {I : Nat → Nat → Int32} (h : NwI A k i j I) (e : ∀ a b, a < 7 → k < b → b < 7 → ((a < i ∨ (a = i ∧ b < j)) ↔ (a < i' ∨ (a = i' ∧ b < j')))) : NwI A k i' j' I := fun a b h1 h2 h3 h4 => by
  rw [h a b h1 h2 h3 h4]
  congr 1
  by_cases c : k < b
  · have := e a b h2 c h4
    by_cases c2 : a < i ∨ (a = i ∧ b < j)
    · by_cases c3 : k < a
      · rw [if_pos ⟨c3, c, c2⟩, if_pos ⟨c3, c, this.mp c2⟩]
      · rw [if_neg (fun q => c3 q.1), if_neg (fun q => c3 q.1)]
    · rw [if_neg (fun q => c2 q.2.2), if_neg (fun q => c2 (this.mpr q.2.2))]
  · rw [if_neg (fun q => c q.2.1), if_neg (fun q => c q.2.1)]
theorem sp_elrow {I : Nat → Nat → Int32} {k i : Nat} (w : Wf A) (hk : k < i) (hi : i < 7) (h : ElI A k) (hp : (mB (lpM A) k).1 k k ≠ 0) (hN : NwI A k i 0 I) (u5 u6 : Option Value) : ∃ I' v5 v6, (∀ c k, c ≠ 76 → I' c k = I c k) ∧ NwI A k (i + 1) 0 I' ∧ ∀ Q, Rn sc d 69 28 [some (.ref 72), some (.int (iI (mB (lpM A) k).2)), some (.int (nI k)), some (.int (iI ((mB (lpM A) k).1 k k))), some (.int (nI i)), u5, u6] [] (K0, I, J, R1 T) Q = Rn sc d 69 28 [some (.ref 72), some (.int (iI (mB (lpM A) k).2)), some (.int (nI k)), some (.int (iI ((mB (lpM A) k).1 k k))), some (.int (nI (i + 1))), v5, v6] [] (K0, I', J, R1 T) Q := by
  have hd := el_d w (show k ≤ 7 by omega) h
  have d0 : ¬ iI (mB (lpM A) k).2 = 0 := iI_nz (by omega) (by omega) (by omega)
  have step : ∀ s (t : (Nat → Nat → Int32) × Option Value), s < 6 - k → ((∀ c k, c ≠ 76 → t.1 c k = I c k) ∧ NwI A k i (k + 1 + s) t.1) → ∃ t' : (Nat → Nat → Int32) × Option Value, ((∀ c k, c ≠ 76 → t'.1 c k = I c k) ∧ NwI A k i (k + 1 + (s + 1)) t'.1) ∧ (fun Q => Rn sc d 69 35 [some (.ref 72), some (.int (iI (mB (lpM A) k).2)), some (.int (nI k)), some (.int (iI ((mB (lpM A) k).1 k k))), some (.int (nI i)), some (.int (nI (k + 1 + s))), t.2] [] (K0, t.1, J, R1 T) Q) = (fun Q => Rn sc d 69 35 [some (.ref 72), some (.int (iI (mB (lpM A) k).2)), some (.int (nI k)), some (.int (iI ((mB (lpM A) k).1 k k))), some (.int (nI i)), some (.int (nI (k + 1 + (s + 1)))), t'.2] [] (K0, t'.1, J, R1 T) Q) := by
    rintro s ⟨I1, u1⟩ hs ⟨f1, k1⟩
    obtain ⟨j, ej⟩ : ∃ j, j = k + 1 + s := ⟨_, rfl⟩
    rw [← ej] at k1
    have k1 : NwI A k i j I1 := k1
    have hj : j < 7 := by omega
    have lj : ¬ 7 ≤ j := by omega
    have r1 : I1 76 (i * 7 + k) = iI ((mB (lpM A) k).1 i k) := by
      rw [k1 i k (by omega) hi (by omega) (by omega), if_neg (fun q => absurd q.2.1 (Nat.lt_irrefl _))]
    have r2 : I1 76 (k * 7 + j) = iI ((mB (lpM A) k).1 k j) := by
      rw [k1 k j (by omega) (by omega) (by omega) hj, if_neg (fun q => absurd q.1 (Nat.lt_irrefl _))]
    have r3 : I1 76 (i * 7 + j) = iI ((mB (lpM A) k).1 i j) := by
      rw [k1 i j (by omega) hi (by omega) hj, if_neg (by omega)]
    have hx := el_x w h hk hi (show k < j by omega) hj
    have q := bz_q hk hi (show k < j by omega) hj (show (mB (lpM A) k).2 ≠ 0 by omega) hp h.1
    have vl : (iI ((mB (lpM A) k).1 i j) * iI ((mB (lpM A) k).1 k k) - iI ((mB (lpM A) k).1 i k) * iI ((mB (lpM A) k).1 k j)) / iI (mB (lpM A) k).2 = iI ((mB (lpM A) (k + 1)).1 i j) := by
      rw [iI_m, iI_m, iI_s]
      refine iI_d ?_ ?_ hd.1 hd.2 ?_
      · have := hx.1
        unfold xB at this
        rw [Int.mul_comm ((mB (lpM A) k).1 i j)]
        exact this
      · have := hx.2
        unfold xB at this
        rw [Int.mul_comm ((mB (lpM A) k).1 i j)]
        exact this
      · rw [q, Int.mul_comm ((mB (lpM A) k).1 i j)]
        rfl
    refine ⟨(uI I1 76 (i * 7 + j) (iI ((mB (lpM A) (k + 1)).1 i j)), some (.int (iI ((mB (lpM A) k).1 i k) * iI ((mB (lpM A) k).1 k j)))), ⟨fun c k hc => (uI_n (by omega)).trans (f1 c k hc), fun a b h1 h2 h3 h4 => ?_⟩, funext fun Q => ?_⟩
    · by_cases e : a = i ∧ b = j
      · obtain ⟨rfl, rfl⟩ := e
        show uI _ _ _ _ _ _ = _
        rw [uI_s, if_pos (by omega)]
      · refine (uI_n (by omega)).trans ?_
        rw [k1 a b h1 h2 h3 h4]
        congr 1
        by_cases c : k < a ∧ k < b ∧ (a < i ∨ (a = i ∧ b < j))
        · rw [if_pos c, if_pos (by omega)]
        · rw [if_neg c, if_neg (by omega)]
    · show Rn _ _ _ _ _ _ _ _ = Rn _ _ _ _ _ _ _ _
      rw [show k + 1 + (s + 1) = j + 1 by omega, ← ej, x69_35]
      simp (disch := first | assumption | omega | decide) only [x69_36, x69_37, x69_38, x69_39, x69_40, x69_41, x69_42, x69_43, x69_44, x69_45, x69_46, x69_47, x69_48, x69_49, x69_50, x69_51, x69_52, x69_53, x69_54, x69_55, x69_56, x69_57, x69_58, x69_59, x69_60, x69_61, x69_62, x69_63, x69_64, x69_65, x69_66, x69_67, x69_68, x69_69, x69_70, x69_71, x69_72, x69_73, x69_74, x69_75, x69_76, x69_77, x69_78, x69_79, ↓reduceIte, Option.toList, List.nil_append, List.cons_append, nI_add, pk_mul, n_and, n_or, n_xor, nI_leI, nI_ltI, nI_eq, n_z, uI_s, uI_n, bI_n0, bI_n1, bT, bF, if_true, if_false, not_true, not_false_eq_true, pk_div, pk_rem, Nat.reduceEqDiff, Nat.reduceLeDiff, Nat.reduceLT, Nat.reduceAdd, Nat.reduceMul, Nat.reduceSub, Nat.not_lt_zero, Nat.zero_le, reduceCtorEq, ite_self, n_rem, and_self, and_true, true_and, and_false, false_and, lj, r1, r2, r3, vl]
  refine Exists.elim (iterE (St := (Nat → Nat → Int32) × Option Value) (fun s t => (∀ c k, c ≠ 76 → t.1 c k = I c k) ∧ NwI A k i (k + 1 + s) t.1) (fun s t => fun Q => Rn sc d 69 35 [some (.ref 72), some (.int (iI (mB (lpM A) k).2)), some (.int (nI k)), some (.int (iI ((mB (lpM A) k).1 k k))), some (.int (nI i)), some (.int (nI (k + 1 + s))), t.2] [] (K0, t.1, J, R1 T) Q) (6 - k) step (I, u6) ⟨fun _ _ _ => rfl, nw_c hN (fun a b _ _ _ => by omega)⟩) ?_
  rintro ⟨I2, v2⟩ ⟨⟨f2, k2⟩, h2⟩
  have k2 : NwI A k i (k + 1 + (6 - k)) I2 := k2
  rw [show k + 1 + (6 - k) = 7 by omega] at k2 h2
  refine ⟨I2, some (.int (nI 7)), v2, f2, nw_c k2 (fun a b _ _ _ => by omega), fun Q => ?_⟩
  have h2' := congrFun h2 Q
  have li : ¬ 7 ≤ i := by omega
  rw [x69_28]
  simp (disch := first | assumption | omega | decide) only [x69_29, x69_30, x69_31, x69_32, x69_33, x69_34, ↓reduceIte, Option.toList, List.nil_append, List.cons_append, nI_add, pk_mul, n_and, n_or, n_xor, nI_leI, nI_ltI, nI_eq, n_z, uI_s, uI_n, bI_n0, bI_n1, bT, bF, if_true, if_false, not_true, not_false_eq_true, pk_div, pk_rem, Nat.reduceEqDiff, Nat.reduceLeDiff, Nat.reduceLT, Nat.reduceAdd, Nat.reduceMul, Nat.reduceSub, Nat.not_lt_zero, Nat.zero_le, reduceCtorEq, ite_self, n_rem, and_self, and_true, true_and, and_false, false_and, li, n_one]
  refine Eq.trans h2' ?_
  show Rn _ _ _ _ _ _ _ _ = _
  rw [x69_35]
  simp (disch := first | assumption | omega | decide) only [x69_36, x69_37, x69_80, x69_81, ↓reduceIte, Option.toList, List.nil_append, List.cons_append, nI_add, pk_mul, n_and, n_or, n_xor, nI_leI, nI_ltI, nI_eq, n_z, uI_s, uI_n, bI_n0, bI_n1, bT, bF, if_true, if_false, not_true, not_false_eq_true, pk_div, pk_rem, Nat.reduceEqDiff, Nat.reduceLeDiff, Nat.reduceLT, Nat.reduceAdd, Nat.reduceMul, Nat.reduceSub, Nat.not_lt_zero, Nat.zero_le, reduceCtorEq, ite_self, n_rem, and_self, and_true, true_and, and_false, false_and, Nat.le_refl]
theorem sp_elim (w : Wf A) : ∀ (m k : Nat), k + m = 7 → ElI A k → ∀ (I : Nat → Nat → Int32) (u3 u4 u5 u6 : Option Value), (∀ i j, k ≤ i → i < 7 → k ≤ j → j < 7 → I 76 (i * 7 + j) = iI ((mB (lpM A) k).1 i j)) → ∃ I', (∀ c k, c ≠ 76 → I' c k = I c k) ∧ ∀ Q, Rn sc d 69 6 [some (.ref 72), some (.int (iI (mB (lpM A) k).2)), some (.int (nI k)), u3, u4, u5, u6] [] (K0, I, J, R1 T) Q = Q (some (.int (iI (brs (lpM A) m k)))) (K0, I', J, R1 T) := by
  intro m
  induction m with
  | zero =>
    intro k hk h I u3 u4 u5 u6 _
    have lk : 7 ≤ k := by omega
    refine ⟨I, fun _ _ _ => rfl, fun Q => ?_⟩
    rw [x69_6, brs]
    simp (disch := first | assumption | omega | decide) only [x69_7, x69_8, x69_86, x69_87, ↓reduceIte, Option.toList, List.nil_append, List.cons_append, nI_add, pk_mul, n_and, n_or, n_xor, nI_leI, nI_ltI, nI_eq, n_z, uI_s, uI_n, bI_n0, bI_n1, bT, bF, if_true, if_false, not_true, not_false_eq_true, pk_div, pk_rem, Nat.reduceEqDiff, Nat.reduceLeDiff, Nat.reduceLT, Nat.reduceAdd, Nat.reduceMul, Nat.reduceSub, Nat.not_lt_zero, Nat.zero_le, reduceCtorEq, ite_self, n_rem, and_self, and_true, true_and, and_false, false_and, lk]
  | succ m ih =>
    intro k hk h I u3 u4 u5 u6 hI
    have lk : ¬ 7 ≤ k := by omega
    have r0 := hI k k (Nat.le_refl k) (by omega) (Nat.le_refl k) (by omega)
    by_cases hp : (mB (lpM A) k).1 k k = 0
    · refine ⟨I, fun _ _ _ => rfl, fun Q => ?_⟩
      have e0 : iI 0 = nI 0 := rfl
      rw [hp, e0] at r0
      rw [x69_6, brs, if_pos hp, e0]
      simp (disch := first | assumption | omega | decide) only [x69_7, x69_8, x69_9, x69_10, x69_11, x69_12, x69_13, x69_14, x69_15, x69_16, x69_17, x69_18, x69_19, x69_20, x69_21, x69_22, x69_23, ↓reduceIte, Option.toList, List.nil_append, List.cons_append, nI_add, pk_mul, n_and, n_or, n_xor, nI_leI, nI_ltI, nI_eq, n_z, uI_s, uI_n, bI_n0, bI_n1, bT, bF, if_true, if_false, not_true, not_false_eq_true, pk_div, pk_rem, Nat.reduceEqDiff, Nat.reduceLeDiff, Nat.reduceLT, Nat.reduceAdd, Nat.reduceMul, Nat.reduceSub, Nat.not_lt_zero, Nat.zero_le, reduceCtorEq, ite_self, n_rem, and_self, and_true, true_and, and_false, false_and, lk, r0]
    · have hd := el_d w (show k ≤ 7 by omega) h
      have d0 : ¬ iI (mB (lpM A) k).2 = nI 0 := iI_nz (by omega) (by omega) (by omega)
      have hii := el_ii w h (Nat.le_refl k) (by omega)
      have p0 : ¬ iI ((mB (lpM A) k).1 k k) = nI 0 := iI_nz (by omega) (by omega) hp
      have hN : NwI A k (k + 1) 0 I := fun a b h1 h2 h3 h4 => by
        rw [hI a b h1 h2 h3 h4, if_neg (by omega)]
      have it := iterE (St := (Nat → Nat → Int32) × Option Value × Option Value) (fun t s => (∀ c k, c ≠ 76 → s.1 c k = I c k) ∧ NwI A k (k + 1 + t) 0 s.1) (fun t s => fun Q => Rn sc d 69 28 [some (.ref 72), some (.int (iI (mB (lpM A) k).2)), some (.int (nI k)), some (.int (iI ((mB (lpM A) k).1 k k))), some (.int (nI (k + 1 + t))), s.2.1, s.2.2] [] (K0, s.1, J, R1 T) Q) (6 - k) (by
        rintro t ⟨I1, u5, u6⟩ ht ⟨f1, k1⟩
        obtain ⟨I2, v5, v6, f2, k2, q2⟩ := sp_elrow (sc := sc) (d := d) (J := J) (T := T) w (show k < k + 1 + t by omega) (show k + 1 + t < 7 by omega) h hp k1 u5 u6
        exact ⟨(I2, v5, v6), ⟨fun c k hc => (f2 c k hc).trans (f1 c k hc), k2⟩, funext q2⟩) (I, u5, u6) ⟨fun _ _ _ => rfl, hN⟩
      obtain ⟨⟨I2, v5, v6⟩, ⟨f2, k2⟩, h2⟩ := it
      have k2 : NwI A k (k + 1 + (6 - k)) 0 I2 := k2
      rw [show k + 1 + (6 - k) = 7 by omega] at k2 h2
      obtain ⟨I3, f3, q3⟩ := ih (k + 1) (by omega) (el_s (by omega) h hp) I2 (some (.int (iI ((mB (lpM A) k).1 k k)))) (some (.int (nI 7))) v5 v6 (fun i j h1 h3 h4 h5 => by
        rw [k2 i j (by omega) h3 (by omega) h5, if_pos (by omega)])
      refine ⟨I3, fun c k hc => (f3 c k hc).trans (f2 c k hc), fun Q => ?_⟩
      have h2' := congrFun h2 Q
      have q3' := q3 Q
      rw [mB_p] at q3'
      rw [x69_6, brs, if_neg hp]
      simp (disch := first | assumption | omega | decide) only [x69_7, x69_8, x69_9, x69_10, x69_11, x69_12, x69_13, x69_14, x69_15, x69_16, x69_17, x69_18, x69_19, x69_20, x69_21, x69_22, x69_23, x69_24, x69_25, x69_26, x69_27, ↓reduceIte, Option.toList, List.nil_append, List.cons_append, nI_add, pk_mul, n_and, n_or, n_xor, nI_leI, nI_ltI, nI_eq, n_z, uI_s, uI_n, bI_n0, bI_n1, bT, bF, if_true, if_false, not_true, not_false_eq_true, pk_div, pk_rem, Nat.reduceEqDiff, Nat.reduceLeDiff, Nat.reduceLT, Nat.reduceAdd, Nat.reduceMul, Nat.reduceSub, Nat.not_lt_zero, Nat.zero_le, reduceCtorEq, ite_self, n_rem, and_self, and_true, true_and, and_false, false_and, lk, r0, p0, d0, n_one]
      refine Eq.trans h2' ?_
      show Rn _ _ _ _ _ _ _ _ = _
      rw [x69_28]
      simp (disch := first | assumption | omega | decide) only [x69_29, x69_30, x69_82, x69_83, x69_84, x69_85, ↓reduceIte, Option.toList, List.nil_append, List.cons_append, nI_add, pk_mul, n_and, n_or, n_xor, nI_leI, nI_ltI, nI_eq, n_z, uI_s, uI_n, bI_n0, bI_n1, bT, bF, if_true, if_false, not_true, not_false_eq_true, pk_div, pk_rem, Nat.reduceEqDiff, Nat.reduceLeDiff, Nat.reduceLT, Nat.reduceAdd, Nat.reduceMul, Nat.reduceSub, Nat.not_lt_zero, Nat.zero_le, reduceCtorEq, ite_self, n_rem, and_self, and_true, true_and, and_false, false_and, Nat.le_refl]
      exact q3'
theorem sp_trees {I : Nat → Nat → Int32} (w : Wf A) (eB : BsC I A) : ∃ I', (∀ c k, c ≠ 76 → I' c k = I c k) ∧ ∀ Q, Rn sc (d + 2) 69 0 [some (.ref 72), none, none, none, none, none, none] [] (K0, I, J, R1 T) Q = Q (some (.int (nI (sm (fT A) (2 ^ A 0))))) (K0, I', J, R1 T) := by
  obtain ⟨I1, f1, k1, q1⟩ := sp_fill (sc := sc) (d := d) (J := J) (T := T) w eB
  obtain ⟨I2, f2, q2⟩ := sp_elim (sc := sc) (d := d + 2) (J := J) (T := T) w 7 0 rfl (el_0 w) I1 none none none none (fun i j _ hi _ hj => k1 i j hi hj)
  have key : ∀ n, sm (fT A) n ≤ n := by
    intro n
    induction n with
    | zero => exact Nat.le_refl _
    | succ n ih =>
      rw [sm]
      unfold fT
      split <;> (unfold fT at ih; omega)
  have l12 := p12 w.1.1
  have l1 := key (2 ^ A 0)
  rw [brs_det 7 0 rfl (el_0 w).1 (el_0 w).2.1, lp_det w, iI_n (by omega)] at q2
  refine ⟨I2, fun c k hc => (f2 c k hc).trans (f1 c k hc), fun Q => ?_⟩
  have q2' := q2 Q
  have e1 : iI (mB (lpM A) 0).2 = nI 1 := rfl
  rw [e1] at q2'
  simp (disch := first | assumption | omega | decide) only [x69_0, x69_1, x69_2, x69_3, x69_4, x69_5, ↓reduceIte, Option.toList, List.nil_append, List.cons_append, nI_add, pk_mul, n_and, n_or, n_xor, nI_leI, nI_ltI, nI_eq, n_z, uI_s, uI_n, bI_n0, bI_n1, bT, bF, if_true, if_false, not_true, not_false_eq_true, pk_div, pk_rem, Nat.reduceEqDiff, Nat.reduceLeDiff, Nat.reduceLT, Nat.reduceAdd, Nat.reduceMul, Nat.reduceSub, Nat.not_lt_zero, Nat.zero_le, reduceCtorEq, ite_self, n_rem, and_self, and_true, true_and, and_false, false_and, q1]
  exact q2'
theorem jt_trees : Jt TX sc (d + 4) 139 275 [some (.ref 0)] [some (.ref 89), none, none] := by
  intro A B M w _
  have w' := w
  obtain ⟨wA, wB, wt⟩ := w
  have l12 := p12 wA.1.1
  have l0 : A 0 ≤ 12 := wA.1.1
  refine ⟨nI (sm (fT A) (2 ^ A 0)), A, B, w', Nat.le_refl _, ?_, ?_⟩
  · intro I J T cI _
    obtain ⟨I1, f1, q1⟩ := sp_trees (sc := sc) (d := d + 1) (J := J) (T := T) wA (BsC_of cI)
    refine ⟨I1, fun c k hc => f1 c k (by omega), CI_c w' cI (I' := I1) (fun c k hc => f1 c k (by omega)), fun Q => ?_⟩
    simp (disch := first | assumption | omega | decide) only [x139_0, x139_1, x139_2, x139_3, ↓reduceIte, Option.toList, List.nil_append, List.cons_append, nI_add, pk_mul, n_and, n_or, n_xor, nI_leI, nI_ltI, nI_eq, n_z, uI_s, uI_n, bI_n0, bI_n1, bT, bF, if_true, if_false, not_true, not_false_eq_true, pk_div, pk_rem, Nat.reduceEqDiff, Nat.reduceLeDiff, Nat.reduceLT, Nat.reduceAdd, Nat.reduceMul, Nat.reduceSub, Nat.not_lt_zero, Nat.zero_le, reduceCtorEq, ite_self, n_rem, and_self, and_true, true_and, and_false, false_and, q1]
  · intro I J T mI _
    refine ⟨I, J, ⟨fun _ _ _ => rfl, fun _ _ => rfl⟩, mI, fun Q => ?_⟩
    have m0 := mI.1 0 (by omega)
    have hi := iter0 (fun R => Rn sc (d + 4) 275 4 [some (.ref 89), some (.int (nI (sm (fT A) R))), some (.int (nI R))] [] (K0, I, J, R1 T) Q) (2 ^ A 0) (by
      intro R hR
      show Rn _ _ _ _ _ _ _ _ = Rn _ _ _ _ _ _ _ _
      have lR : ¬ 2 ^ A 0 ≤ R := by omega
      have R1 : R < 4096 := by omega
      have cm := comp_l (R := R) wA (show 0 < 8 by omega)
      have cc := sp_come (sc := sc) (d := d + 2) (J := J) (T := T) wA mI.1 (show 0 < 8 by omega) R1
      have sb := fun Q => sp_bits (sc := sc) (d := d + 3) (I := I) (J := J) (T := T) (Q := Q) (show R < 2 ^ 31 by omega)
      have pb : pcN R ≤ 12 := by
        rw [cR_pc R R1]
        unfold cR
        exact Nat.le_trans (sm_le (G := fun _ => 1) 12 (fun i _ => by split <;> omega)) (by decide)
      rw [x275_4, sm]
      unfold fT
      by_cases c : pcN R = 7
      · by_cases c2 : comp A 0 R = 255
        · rw [if_pos ⟨c, c2⟩]
          simp (disch := first | assumption | omega | decide) only [x275_5, x275_6, x275_7, x275_8, x275_9, x275_10, x275_11, x275_12, x275_13, x275_14, x275_15, x275_16, x275_17, x275_18, x275_19, x275_20, x275_21, x275_22, x275_23, x275_24, x275_25, x275_26, x275_27, x275_28, x275_29, ↓reduceIte, Option.toList, List.nil_append, List.cons_append, nI_add, pk_mul, n_and, n_or, n_xor, nI_leI, nI_ltI, nI_eq, n_z, uI_s, uI_n, bI_n0, bI_n1, bT, bF, if_true, if_false, not_true, not_false_eq_true, pk_div, pk_rem, Nat.reduceEqDiff, Nat.reduceLeDiff, Nat.reduceLT, Nat.reduceAdd, Nat.reduceMul, Nat.reduceSub, Nat.not_lt_zero, Nat.zero_le, reduceCtorEq, ite_self, n_rem, and_self, and_true, true_and, and_false, false_and, m0, n_one, lR, sb, c, cc, c2]
        · rw [if_neg (fun h => c2 h.2)]
          simp (disch := first | assumption | omega | decide) only [x275_5, x275_6, x275_7, x275_8, x275_9, x275_10, x275_11, x275_12, x275_13, x275_14, x275_15, x275_16, x275_17, x275_18, x275_19, x275_20, x275_21, x275_22, x275_23, x275_24, x275_25, x275_26, x275_27, x275_28, x275_29, ↓reduceIte, Option.toList, List.nil_append, List.cons_append, nI_add, pk_mul, n_and, n_or, n_xor, nI_leI, nI_ltI, nI_eq, n_z, uI_s, uI_n, bI_n0, bI_n1, bT, bF, if_true, if_false, not_true, not_false_eq_true, pk_div, pk_rem, Nat.reduceEqDiff, Nat.reduceLeDiff, Nat.reduceLT, Nat.reduceAdd, Nat.reduceMul, Nat.reduceSub, Nat.not_lt_zero, Nat.zero_le, reduceCtorEq, ite_self, n_rem, and_self, and_true, true_and, and_false, false_and, m0, n_one, lR, sb, c, cc, c2]
      · rw [if_neg (fun h => c h.1)]
        simp (disch := first | assumption | omega | decide) only [x275_5, x275_6, x275_7, x275_8, x275_9, x275_10, x275_11, x275_12, x275_13, x275_14, x275_15, x275_16, x275_17, x275_18, x275_19, x275_20, x275_21, x275_22, x275_23, x275_24, x275_25, x275_26, x275_27, x275_28, x275_29, ↓reduceIte, Option.toList, List.nil_append, List.cons_append, nI_add, pk_mul, n_and, n_or, n_xor, nI_leI, nI_ltI, nI_eq, n_z, uI_s, uI_n, bI_n0, bI_n1, bT, bF, if_true, if_false, not_true, not_false_eq_true, pk_div, pk_rem, Nat.reduceEqDiff, Nat.reduceLeDiff, Nat.reduceLT, Nat.reduceAdd, Nat.reduceMul, Nat.reduceSub, Nat.not_lt_zero, Nat.zero_le, reduceCtorEq, ite_self, n_rem, and_self, and_true, true_and, and_false, false_and, m0, n_one, lR, sb, c])
    simp (disch := first | assumption | omega | decide) only [x275_0, x275_1, x275_2, x275_3, ↓reduceIte, Option.toList, List.nil_append, List.cons_append, nI_add, pk_mul, n_and, n_or, n_xor, nI_leI, nI_ltI, nI_eq, n_z, uI_s, uI_n, bI_n0, bI_n1, bT, bF, if_true, if_false, not_true, not_false_eq_true, pk_div, pk_rem, Nat.reduceEqDiff, Nat.reduceLeDiff, Nat.reduceLT, Nat.reduceAdd, Nat.reduceMul, Nat.reduceSub, Nat.not_lt_zero, Nat.zero_le, reduceCtorEq, ite_self, n_rem, and_self, and_true, true_and, and_false, false_and]
    refine Eq.trans hi ?_
    show Rn _ _ _ _ _ _ _ _ = _
    rw [x275_4]
    simp (disch := first | assumption | omega | decide) only [x275_5, x275_6, x275_7, x275_8, x275_9, x275_10, x275_11, x275_30, x275_31, ↓reduceIte, Option.toList, List.nil_append, List.cons_append, nI_add, pk_mul, n_and, n_or, n_xor, nI_leI, nI_ltI, nI_eq, n_z, uI_s, uI_n, bI_n0, bI_n1, bT, bF, if_true, if_false, not_true, not_false_eq_true, pk_div, pk_rem, Nat.reduceEqDiff, Nat.reduceLeDiff, Nat.reduceLT, Nat.reduceAdd, Nat.reduceMul, Nat.reduceSub, Nat.not_lt_zero, Nat.zero_le, reduceCtorEq, ite_self, n_rem, and_self, and_true, true_and, and_false, false_and, m0, n_one, Nat.le_refl]
end Trees
