/-! reach: as a fraction in its lowest terms -/
theorem gc_odd {u m : Nat} (h : u % 2 = 1) : Nat.gcd u (2 ^ m) = 1 := by
  have h1 : Nat.Coprime u 2 := by
    show Nat.gcd u 2 = 1
    rw [Nat.gcd_comm, Nat.gcd_rec, h]
    exact Nat.gcd_one_left 2
  exact Nat.Coprime.pow_right m h1
theorem gc_ev {u m : Nat} (h : u % 2 = 0) : Nat.gcd u (2 ^ (m + 1)) = 2 * Nat.gcd (u / 2) (2 ^ m) := by
  have e : u = 2 * (u / 2) := by omega
  have := Nat.gcd_mul_left 2 (u / 2) (2 ^ m)
  rw [← e] at this
  rw [Nat.pow_succ, Nat.mul_comm (2 ^ m) 2]
  exact this
theorem gc_pos {u m : Nat} : 0 < Nat.gcd u (2 ^ m) := Nat.gcd_pos_of_pos_right _ (Nat.two_pow_pos m)
theorem nz_0 {y : Nat} (h : y < 2 ^ 31) (h0 : 0 < y) : ¬ nI y = (0 : Int32) := by
  intro e
  have e2 : nI y = nI 0 := e
  rw [nI_eq h (by omega)] at e2
  omega
section Reach
variable {TX : (Nat → Nat → Int32) → Nat → Prop} {sc : Sc} {d : Nat}
theorem sp_divisor {I : Nat → Nat → Int32} {J : Nat → Nat → Int64} {T : Option Nat} {Q : Option Value → Mm → Prop} {u l : Nat} (hu : u < 2 ^ 31) (hl : l < 2 ^ 31) : Rn sc d 276 0 [some (.int (nI u)), some (.int (nI l)), none, none, none] [] (K0, I, J, R1 T) Q = Q (some (.int (nI (Nat.gcd l u)))) (K0, I, J, R1 T) := by
  have loop : ∀ (y x : Nat) (v : Option Value), y < 2 ^ 31 → x < 2 ^ 31 → Rn sc d 276 4 [some (.int (nI u)), some (.int (nI l)), some (.int (nI x)), some (.int (nI y)), v] [] (K0, I, J, R1 T) Q = Q (some (.int (nI (Nat.gcd y x)))) (K0, I, J, R1 T) := by
    intro y
    induction y using Nat.strongRecOn with
    | _ y ih =>
      intro x v hy hx
      rw [x276_4]
      by_cases c : y = 0
      · subst c
        rw [Nat.gcd_zero_left]
        simp (disch := first | assumption | omega | decide) only [x276_5, x276_6, x276_7, x276_8, x276_9, x276_10, x276_11, x276_12, x276_13, x276_14, x276_15, x276_16, ↓reduceIte, Option.toList, List.nil_append, List.cons_append, nI_add, pk_mul, n_and, n_or, n_xor, nI_leI, nI_ltI, nI_eq, n_z, uI_s, uI_n, bI_n0, bI_n1, bT, bF, if_true, if_false, not_true, not_false_eq_true, pk_div, pk_rem, Nat.reduceEqDiff, Nat.reduceLeDiff, Nat.reduceLT, Nat.reduceAdd, Nat.reduceMul, Nat.reduceSub, Nat.not_lt_zero, Nat.zero_le, reduceCtorEq, ite_self, n_rem, and_self, and_true, true_and, and_false, false_and]
      · have lt : x % y < y := Nat.mod_lt _ (by omega)
        have hp : 0 < y := by omega
        have hy0 := nz_0 hy hp
        rw [Nat.gcd_rec, ← ih (x % y) lt y (some (.int (nI (x % y)))) (by omega) hy]
        simp (disch := first | assumption | omega | decide) only [x276_5, x276_6, x276_7, x276_8, x276_9, x276_10, x276_11, x276_12, x276_13, x276_14, x276_15, x276_16, ↓reduceIte, Option.toList, List.nil_append, List.cons_append, nI_add, pk_mul, n_and, n_or, n_xor, nI_leI, nI_ltI, nI_eq, n_z, uI_s, uI_n, bI_n0, bI_n1, bT, bF, if_true, if_false, not_true, not_false_eq_true, pk_div, pk_rem, Nat.reduceEqDiff, Nat.reduceLeDiff, Nat.reduceLT, Nat.reduceAdd, Nat.reduceMul, Nat.reduceSub, Nat.not_lt_zero, Nat.zero_le, reduceCtorEq, ite_self, n_rem, and_self, and_true, true_and, and_false, false_and, c]
  have l0 := loop l u none hl hu
  simp (disch := first | assumption | omega | decide) only [x276_0, x276_1, x276_2, x276_3, ↓reduceIte, Option.toList, List.nil_append, List.cons_append, nI_add, pk_mul, n_and, n_or, n_xor, nI_leI, nI_ltI, nI_eq, n_z, uI_s, uI_n, bI_n0, bI_n1, bT, bF, if_true, if_false, not_true, not_false_eq_true, pk_div, pk_rem, Nat.reduceEqDiff, Nat.reduceLeDiff, Nat.reduceLT, Nat.reduceAdd, Nat.reduceMul, Nat.reduceSub, Nat.not_lt_zero, Nat.zero_le, reduceCtorEq, ite_self, n_rem, and_self, and_true, true_and, and_false, false_and]
  exact l0
theorem sp_halve {I : Nat → Nat → Int32} {J : Nat → Nat → Int64} {T : Option Nat} {Q : Option Value → Mm → Prop} {a b : Int32} {z : Nat} (hz : z < 2) : ∀ (m u i : Nat), u < 2 ^ 31 → i + m ≤ 12 → Rn sc d 146 22 [some (.ref 0), some (.int a), some (.int b), some (.int (nI z)), some (.int (nI u)), some (.int (nI (2 ^ m))), some (.int (nI i))] [] (K0, I, J, R1 T) Q = Q (some (.int (nI ((if z = 0 then u else 2 ^ m) / Nat.gcd u (2 ^ m))))) (K0, I, J, R1 T) := by
  intro m
  have hz' : z = 0 ∨ z = 1 := by omega
  induction m with
  | zero =>
    intro u i hu hi
    have g1 : Nat.gcd u 1 = 1 := Nat.gcd_one_right u
    rw [Nat.pow_zero, x146_22, g1, Nat.div_one]
    by_cases c : 12 ≤ i
    · rcases hz' with rfl | rfl
      · rw [if_pos rfl]
        simp (disch := first | assumption | omega | decide) only [x146_23, x146_24, x146_25, x146_26, x146_27, x146_28, x146_29, x146_30, x146_31, x146_32, x146_33, x146_34, x146_35, x146_36, x146_37, x146_38, x146_39, x146_40, x146_41, x146_42, x146_43, x146_44, x146_45, x146_46, x146_47, ↓reduceIte, Option.toList, List.nil_append, List.cons_append, nI_add, pk_mul, n_and, n_or, n_xor, nI_leI, nI_ltI, nI_eq, n_z, uI_s, uI_n, bI_n0, bI_n1, bT, bF, if_true, if_false, not_true, not_false_eq_true, pk_div, pk_rem, Nat.reduceEqDiff, Nat.reduceLeDiff, Nat.reduceLT, Nat.reduceAdd, Nat.reduceMul, Nat.reduceSub, Nat.not_lt_zero, Nat.zero_le, reduceCtorEq, ite_self, n_rem, and_self, and_true, true_and, and_false, false_and, c]
      · rw [if_neg (by decide)]
        simp (disch := first | assumption | omega | decide) only [x146_23, x146_24, x146_25, x146_26, x146_27, x146_28, x146_29, x146_30, x146_31, x146_32, x146_33, x146_34, x146_35, x146_36, x146_37, x146_38, x146_39, x146_40, x146_41, x146_42, x146_43, x146_44, x146_45, x146_46, x146_47, ↓reduceIte, Option.toList, List.nil_append, List.cons_append, nI_add, pk_mul, n_and, n_or, n_xor, nI_leI, nI_ltI, nI_eq, n_z, uI_s, uI_n, bI_n0, bI_n1, bT, bF, if_true, if_false, not_true, not_false_eq_true, pk_div, pk_rem, Nat.reduceEqDiff, Nat.reduceLeDiff, Nat.reduceLT, Nat.reduceAdd, Nat.reduceMul, Nat.reduceSub, Nat.not_lt_zero, Nat.zero_le, reduceCtorEq, ite_self, n_rem, and_self, and_true, true_and, and_false, false_and, c]
    · rcases hz' with rfl | rfl
      · rw [if_pos rfl]
        simp (disch := first | assumption | omega | decide) only [x146_23, x146_24, x146_25, x146_26, x146_27, x146_28, x146_29, x146_30, x146_31, x146_32, x146_33, x146_34, x146_35, x146_36, x146_37, x146_38, x146_39, x146_40, x146_41, x146_42, x146_43, x146_44, x146_45, x146_46, x146_47, ↓reduceIte, Option.toList, List.nil_append, List.cons_append, nI_add, pk_mul, n_and, n_or, n_xor, nI_leI, nI_ltI, nI_eq, n_z, uI_s, uI_n, bI_n0, bI_n1, bT, bF, if_true, if_false, not_true, not_false_eq_true, pk_div, pk_rem, Nat.reduceEqDiff, Nat.reduceLeDiff, Nat.reduceLT, Nat.reduceAdd, Nat.reduceMul, Nat.reduceSub, Nat.not_lt_zero, Nat.zero_le, reduceCtorEq, ite_self, n_rem, and_self, and_true, true_and, and_false, false_and, c]
      · rw [if_neg (by decide)]
        simp (disch := first | assumption | omega | decide) only [x146_23, x146_24, x146_25, x146_26, x146_27, x146_28, x146_29, x146_30, x146_31, x146_32, x146_33, x146_34, x146_35, x146_36, x146_37, x146_38, x146_39, x146_40, x146_41, x146_42, x146_43, x146_44, x146_45, x146_46, x146_47, ↓reduceIte, Option.toList, List.nil_append, List.cons_append, nI_add, pk_mul, n_and, n_or, n_xor, nI_leI, nI_ltI, nI_eq, n_z, uI_s, uI_n, bI_n0, bI_n1, bT, bF, if_true, if_false, not_true, not_false_eq_true, pk_div, pk_rem, Nat.reduceEqDiff, Nat.reduceLeDiff, Nat.reduceLT, Nat.reduceAdd, Nat.reduceMul, Nat.reduceSub, Nat.not_lt_zero, Nat.zero_le, reduceCtorEq, ite_self, n_rem, and_self, and_true, true_and, and_false, false_and, c]
  | succ m ih =>
    intro u i hu hi
    have c : ¬ 12 ≤ i := by omega
    have p0 : 0 < 2 ^ m := Nat.two_pow_pos m
    have p1 : 2 ^ m ≤ 4096 := p12 (by omega)
    have p2 : 2 ^ (m + 1) = 2 ^ m * 2 := Nat.pow_succ ..
    have p3 : ¬ 2 ^ m * 2 ≤ 1 := by omega
    have p4 : 2 ^ m * 2 / 2 = 2 ^ m := by omega
    by_cases ho : u % 2 = 0
    · have e1 : (if z = 0 then u else 2 ^ (m + 1)) / Nat.gcd u (2 ^ (m + 1)) = (if z = 0 then u / 2 else 2 ^ m) / Nat.gcd (u / 2) (2 ^ m) := by
        rw [gc_ev ho, ← Nat.div_div_eq_div_mul]
        rcases hz' with rfl | rfl
        · rw [if_pos rfl, if_pos rfl]
        · rw [if_neg (by decide), if_neg (by decide), p2, p4]
      have nx := ih (u / 2) (i + 1) (by omega) (by omega)
      rw [e1, ← nx, x146_22, p2]
      simp (disch := first | assumption | omega | decide) only [x146_23, x146_24, x146_25, x146_26, x146_27, x146_28, x146_29, x146_30, x146_31, x146_32, x146_33, x146_34, x146_35, x146_36, x146_37, x146_38, x146_39, x146_40, x146_41, ↓reduceIte, Option.toList, List.nil_append, List.cons_append, nI_add, pk_mul, n_and, n_or, n_xor, nI_leI, nI_ltI, nI_eq, n_z, uI_s, uI_n, bI_n0, bI_n1, bT, bF, if_true, if_false, not_true, not_false_eq_true, pk_div, pk_rem, Nat.reduceEqDiff, Nat.reduceLeDiff, Nat.reduceLT, Nat.reduceAdd, Nat.reduceMul, Nat.reduceSub, Nat.not_lt_zero, Nat.zero_le, reduceCtorEq, ite_self, n_rem, and_self, and_true, true_and, and_false, false_and, c, p3, ho, p4]
    · have ho' : u % 2 = 1 := by omega
      have ho2 : ¬ u % 2 = 0 := ho
      rw [gc_odd ho', Nat.div_one, x146_22, p2]
      rcases hz' with rfl | rfl
      · rw [if_pos rfl]
        simp (disch := first | assumption | omega | decide) only [x146_23, x146_24, x146_25, x146_26, x146_27, x146_28, x146_29, x146_30, x146_31, x146_42, x146_43, x146_44, x146_45, x146_46, x146_47, ↓reduceIte, Option.toList, List.nil_append, List.cons_append, nI_add, pk_mul, n_and, n_or, n_xor, nI_leI, nI_ltI, nI_eq, n_z, uI_s, uI_n, bI_n0, bI_n1, bT, bF, if_true, if_false, not_true, not_false_eq_true, pk_div, pk_rem, Nat.reduceEqDiff, Nat.reduceLeDiff, Nat.reduceLT, Nat.reduceAdd, Nat.reduceMul, Nat.reduceSub, Nat.not_lt_zero, Nat.zero_le, reduceCtorEq, ite_self, n_rem, and_self, and_true, true_and, and_false, false_and, c, p3, ho']
      · rw [if_neg (by decide)]
        simp (disch := first | assumption | omega | decide) only [x146_23, x146_24, x146_25, x146_26, x146_27, x146_28, x146_29, x146_30, x146_31, x146_42, x146_43, x146_44, x146_45, x146_46, x146_47, ↓reduceIte, Option.toList, List.nil_append, List.cons_append, nI_add, pk_mul, n_and, n_or, n_xor, nI_leI, nI_ltI, nI_eq, n_z, uI_s, uI_n, bI_n0, bI_n1, bT, bF, if_true, if_false, not_true, not_false_eq_true, pk_div, pk_rem, Nat.reduceEqDiff, Nat.reduceLeDiff, Nat.reduceLT, Nat.reduceAdd, Nat.reduceMul, Nat.reduceSub, Nat.not_lt_zero, Nat.zero_le, reduceCtorEq, ite_self, n_rem, and_self, and_true, true_and, and_false, false_and, c, p3, ho']
theorem jt_reach {x y : Int32} {z : Nat} (hz : z < 2) : Jt TX sc (d + 4) 146 277 [some (.ref 0), some (.int x), some (.int y), some (.int (nI z)), none, none, none] [some (.ref 89), some (.int x), some (.int y), some (.int (nI z)), none, none, none] := by
  intro A B M w _
  have w' := w
  obtain ⟨wA, wB, wt⟩ := w
  have hz' : z = 0 ∨ z = 1 := by omega
  by_cases hx : inR x 8
  · obtain ⟨a, ha, rfl⟩ := hx
    by_cases hy : inR y 8
    · obtain ⟨b, hb, rfl⟩ := hy
      have l0 : A 0 ≤ 12 := wA.1.1
      have l1 := p12 l0
      have ul := up_le (b := b) wA ha
      obtain ⟨u, eu⟩ : ∃ u, u = sm (uF A a b) 256 := ⟨_, rfl⟩
      rw [← eu] at ul
      have hu : u < 2 ^ 31 := by omega
      refine ⟨nI ((if z = 0 then u else 2 ^ A 0) / Nat.gcd u (2 ^ A 0)), A, B, w', Nat.le_refl _, ?_, ?_⟩
      · intro I J T cI _
        obtain ⟨I1, f1, q1⟩ := sp_ways (sc := sc) (d := d) (J := J) (T := T) wA ha hb (BsC_of cI)
        rw [← eu] at q1
        have c1 := CI_c w' cI (I' := I1) (fun c k hc => f1 c k (by omega))
        refine ⟨I1, fun c k hc => f1 c k (by omega), c1, fun Q => ?_⟩
        have lp := sp_halve (sc := sc) (d := d + 4) (J := J) (T := T) (I := I1) (Q := Q) (a := nI a) (b := nI b) hz (A 0) u 0 hu (by omega)
        have n9 := tw_roads c1.1
        simp (disch := first | assumption | omega | decide) only [x146_0, x146_1, x146_2, x146_3, x146_4, x146_5, x146_6, x146_7, x146_8, x146_9, x146_10, x146_11, x146_12, x146_13, x146_14, x146_15, x146_16, x146_17, x146_18, x146_19, x146_20, x146_21, ↓reduceIte, Option.toList, List.nil_append, List.cons_append, nI_add, pk_mul, n_and, n_or, n_xor, nI_leI, nI_ltI, nI_eq, n_z, uI_s, uI_n, bI_n0, bI_n1, bT, bF, if_true, if_false, not_true, not_false_eq_true, pk_div, pk_rem, Nat.reduceEqDiff, Nat.reduceLeDiff, Nat.reduceLT, Nat.reduceAdd, Nat.reduceMul, Nat.reduceSub, Nat.not_lt_zero, Nat.zero_le, reduceCtorEq, ite_self, n_rem, and_self, and_true, true_and, and_false, false_and, sp_houC_t, q1, n9, n_one]
        exact lp
      · intro I J T mI _
        refine ⟨I, J, ⟨fun _ _ _ => rfl, fun _ _ => rfl⟩, mI, fun Q => ?_⟩
        have hi := iter0 (fun R => Rn sc (d + 4) 277 19 [some (.ref 89), some (.int (nI a)), some (.int (nI b)), some (.int (nI z)), some (.int (nI (2 ^ A 0))), some (.int (nI (sm (fun R => if comp A a R / 2 ^ b % 2 = 1 then 1 else 0) R))), some (.int (nI R))] [] (K0, I, J, R1 T) Q) (2 ^ A 0) (by
          intro R hR
          show Rn _ _ _ _ _ _ _ _ = Rn _ _ _ _ _ _ _ _
          have lR : ¬ 2 ^ A 0 ≤ R := by omega
          have R1 : R < 4096 := by omega
          have cm := comp_l (R := R) wA ha
          have cc := sp_come (sc := sc) (d := d + 2) (J := J) (T := T) wA mI.1 ha R1
          rw [x277_19, sm]
          by_cases c : comp A a R / 2 ^ b % 2 = 1
          · rw [if_pos c]
            simp (disch := first | assumption | omega | decide) only [x277_20, x277_21, x277_22, x277_23, x277_24, x277_25, x277_26, x277_27, x277_28, x277_29, x277_30, x277_31, x277_32, x277_33, x277_34, x277_35, x277_36, ↓reduceIte, Option.toList, List.nil_append, List.cons_append, nI_add, pk_mul, n_and, n_or, n_xor, nI_leI, nI_ltI, nI_eq, n_z, uI_s, uI_n, bI_n0, bI_n1, bT, bF, if_true, if_false, not_true, not_false_eq_true, pk_div, pk_rem, Nat.reduceEqDiff, Nat.reduceLeDiff, Nat.reduceLT, Nat.reduceAdd, Nat.reduceMul, Nat.reduceSub, Nat.not_lt_zero, Nat.zero_le, reduceCtorEq, ite_self, n_rem, and_self, and_true, true_and, and_false, false_and, lR, cc, sp_has, c]
          · rw [if_neg c]
            simp (disch := first | assumption | omega | decide) only [x277_20, x277_21, x277_22, x277_23, x277_24, x277_25, x277_26, x277_27, x277_28, x277_29, x277_30, x277_31, x277_32, x277_33, x277_34, x277_35, x277_36, ↓reduceIte, Option.toList, List.nil_append, List.cons_append, nI_add, pk_mul, n_and, n_or, n_xor, nI_leI, nI_ltI, nI_eq, n_z, uI_s, uI_n, bI_n0, bI_n1, bT, bF, if_true, if_false, not_true, not_false_eq_true, pk_div, pk_rem, Nat.reduceEqDiff, Nat.reduceLeDiff, Nat.reduceLT, Nat.reduceAdd, Nat.reduceMul, Nat.reduceSub, Nat.not_lt_zero, Nat.zero_le, reduceCtorEq, ite_self, n_rem, and_self, and_true, true_and, and_false, false_and, lR, cc, sp_has, c])
        rw [up_eq wA ha, ← eu] at hi
        have m0 := mI.1 0 (by omega)
        have gp := gc_pos (u := u) (m := A 0)
        have gl : Nat.gcd u (2 ^ A 0) ≤ 2 ^ A 0 := Nat.gcd_le_right _ (Nat.two_pow_pos _)
        have gl2 : Nat.gcd u (2 ^ A 0) < 2 ^ 31 := by omega
        have dv := fun Q => sp_divisor (sc := sc) (d := d + 3) (J := J) (T := T) (I := I) (Q := Q) (u := u) (l := 2 ^ A 0) hu (by omega)
        rw [Nat.gcd_comm] at dv
        have g0 := nz_0 gl2 gp
        simp (disch := first | assumption | omega | decide) only [x277_0, x277_1, x277_2, x277_3, x277_4, x277_5, x277_6, x277_7, x277_8, x277_9, x277_10, x277_11, x277_12, x277_13, x277_14, x277_15, x277_16, x277_17, x277_18, ↓reduceIte, Option.toList, List.nil_append, List.cons_append, nI_add, pk_mul, n_and, n_or, n_xor, nI_leI, nI_ltI, nI_eq, n_z, uI_s, uI_n, bI_n0, bI_n1, bT, bF, if_true, if_false, not_true, not_false_eq_true, pk_div, pk_rem, Nat.reduceEqDiff, Nat.reduceLeDiff, Nat.reduceLT, Nat.reduceAdd, Nat.reduceMul, Nat.reduceSub, Nat.not_lt_zero, Nat.zero_le, reduceCtorEq, ite_self, n_rem, and_self, and_true, true_and, and_false, false_and, sp_houM_t, m0, n_one]
        refine Eq.trans hi ?_
        rw [x277_19]
        rcases hz' with rfl | rfl
        · rw [if_pos rfl]
          simp (disch := first | assumption | omega | decide) only [x277_20, x277_21, x277_37, x277_38, x277_39, x277_40, x277_41, x277_42, x277_43, x277_44, x277_45, x277_46, ↓reduceIte, Option.toList, List.nil_append, List.cons_append, nI_add, pk_mul, n_and, n_or, n_xor, nI_leI, nI_ltI, nI_eq, n_z, uI_s, uI_n, bI_n0, bI_n1, bT, bF, if_true, if_false, not_true, not_false_eq_true, pk_div, pk_rem, Nat.reduceEqDiff, Nat.reduceLeDiff, Nat.reduceLT, Nat.reduceAdd, Nat.reduceMul, Nat.reduceSub, Nat.not_lt_zero, Nat.zero_le, reduceCtorEq, ite_self, n_rem, and_self, and_true, true_and, and_false, false_and, Nat.le_refl, dv]
        · rw [if_neg (by decide)]
          simp (disch := first | assumption | omega | decide) only [x277_20, x277_21, x277_37, x277_38, x277_39, x277_40, x277_41, x277_42, x277_43, x277_44, x277_45, x277_46, ↓reduceIte, Option.toList, List.nil_append, List.cons_append, nI_add, pk_mul, n_and, n_or, n_xor, nI_leI, nI_ltI, nI_eq, n_z, uI_s, uI_n, bI_n0, bI_n1, bT, bF, if_true, if_false, not_true, not_false_eq_true, pk_div, pk_rem, Nat.reduceEqDiff, Nat.reduceLeDiff, Nat.reduceLT, Nat.reduceAdd, Nat.reduceMul, Nat.reduceSub, Nat.not_lt_zero, Nat.zero_le, reduceCtorEq, ite_self, n_rem, and_self, and_true, true_and, and_false, false_and, Nat.le_refl, dv]
    · refine jtR w' (-1) ?_ ?_ <;> intro I J T Q hI
      · simp (disch := first | assumption | omega | decide) only [x146_0, x146_1, x146_2, x146_3, x146_4, x146_5, x146_6, x146_7, x146_8, ↓reduceIte, Option.toList, List.nil_append, List.cons_append, nI_add, pk_mul, n_and, n_or, n_xor, nI_leI, nI_ltI, nI_eq, n_z, uI_s, uI_n, bI_n0, bI_n1, bT, bF, if_true, if_false, not_true, not_false_eq_true, pk_div, pk_rem, Nat.reduceEqDiff, Nat.reduceLeDiff, Nat.reduceLT, Nat.reduceAdd, Nat.reduceMul, Nat.reduceSub, Nat.not_lt_zero, Nat.zero_le, reduceCtorEq, ite_self, n_rem, and_self, and_true, true_and, and_false, false_and, sp_houC_t, sp_houC_f hy]
      · simp (disch := first | assumption | omega | decide) only [x277_0, x277_1, x277_2, x277_3, x277_4, x277_5, x277_6, x277_7, x277_8, ↓reduceIte, Option.toList, List.nil_append, List.cons_append, nI_add, pk_mul, n_and, n_or, n_xor, nI_leI, nI_ltI, nI_eq, n_z, uI_s, uI_n, bI_n0, bI_n1, bT, bF, if_true, if_false, not_true, not_false_eq_true, pk_div, pk_rem, Nat.reduceEqDiff, Nat.reduceLeDiff, Nat.reduceLT, Nat.reduceAdd, Nat.reduceMul, Nat.reduceSub, Nat.not_lt_zero, Nat.zero_le, reduceCtorEq, ite_self, n_rem, and_self, and_true, true_and, and_false, false_and, sp_houM_t, sp_houM_f hy]
  · refine jtR w' (-1) ?_ ?_ <;> intro I J T Q hI
    · simp (disch := first | assumption | omega | decide) only [x146_0, x146_1, x146_2, x146_3, x146_4, x146_5, x146_6, x146_7, x146_8, ↓reduceIte, Option.toList, List.nil_append, List.cons_append, nI_add, pk_mul, n_and, n_or, n_xor, nI_leI, nI_ltI, nI_eq, n_z, uI_s, uI_n, bI_n0, bI_n1, bT, bF, if_true, if_false, not_true, not_false_eq_true, pk_div, pk_rem, Nat.reduceEqDiff, Nat.reduceLeDiff, Nat.reduceLT, Nat.reduceAdd, Nat.reduceMul, Nat.reduceSub, Nat.not_lt_zero, Nat.zero_le, reduceCtorEq, ite_self, n_rem, and_self, and_true, true_and, and_false, false_and, sp_houC_f hx]
    · simp (disch := first | assumption | omega | decide) only [x277_0, x277_1, x277_2, x277_3, x277_4, x277_5, x277_6, x277_7, x277_8, ↓reduceIte, Option.toList, List.nil_append, List.cons_append, nI_add, pk_mul, n_and, n_or, n_xor, nI_leI, nI_ltI, nI_eq, n_z, uI_s, uI_n, bI_n0, bI_n1, bT, bF, if_true, if_false, not_true, not_false_eq_true, pk_div, pk_rem, Nat.reduceEqDiff, Nat.reduceLeDiff, Nat.reduceLT, Nat.reduceAdd, Nat.reduceMul, Nat.reduceSub, Nat.not_lt_zero, Nat.zero_le, reduceCtorEq, ite_self, n_rem, and_self, and_true, true_and, and_false, false_and, sp_houM_f hx]
end Reach
