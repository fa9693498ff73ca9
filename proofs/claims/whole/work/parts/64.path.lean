/-! path -/
theorem dvD_e {n k : Nat} (hk : k < 8) : (dvD n = nI k) = (n = k) := by
  by_cases c : n < 8
  · rw [dvD_t c]
    exact propext (nI_eq (by omega) (by omega))
  · rw [dvD_f c, n_m1e' (by omega)]
    exact (eq_false (by omega)).symm
theorem in_m1 {z : Int32} : bI (nI 0 ≤ z ∧ z ≤ -1) = nI 0 := by
  rw [bI_f]
  rintro ⟨h1, h2⟩
  exact absurd (Int32.le_trans h1 h2) (by decide)
section Path
variable {TX : (Nat → Nat → Int32) → Nat → Prop} {sc : Sc} {d : Nat}
theorem sp_nearC {I : Nat → Nat → Int32} {J : Nat → Nat → Int64} {T : Option Nat} {Q : Option Value → Mm → Prop} {A : Nat → Nat} {h b : Nat} (hh : h < 8) (hb : b < 8) (h1 : 0 < ds A h b) (h2 : ds A h b < 8) (w : Wf A) (eB : BsC I A) (e : ∀ a h, a < 8 → h < 8 → I 73 (a * 8 + h) = dvD (ds A a h)) : Rn sc (d + 1) 66 0 [some (.ref 72), some (.int (nI h)), some (.int (nI b)), none] [] (K0, I, J, R1 T) Q = Q (some (.int (nI (lw A h b)))) (K0, I, J, R1 T) := by
  obtain ⟨l1, l2, l3, l4⟩ := lw_ok (A := A) hh hb h1 h2
  have eh : dvD (ds A h b) = nI (ds A h b) := dvD_t h2
  have hi := iter0 (fun j => Rn sc (d + 1) 66 2 [some (.ref 72), some (.int (nI h)), some (.int (nI b)), some (.int (nI j))] [] (K0, I, J, R1 T) Q) (lw A h b) (by
    intro j hj
    show Rn _ _ _ _ _ _ _ _ = Rn _ _ _ _ _ _ _ _
    have lj : ¬ 8 ≤ j := by omega
    have jn := fun Q => sp_joins (Q := Q) (sc := sc) (d := d) (J := J) (T := T) hh (show j < 8 by omega) w eB
    have s1 := fun Q => sp_dist (Q := Q) (sc := sc) (d := d) (J := J) (T := T) (show j < 8 by omega) hb e
    have s2 := fun Q => sp_dist (Q := Q) (sc := sc) (d := d) (J := J) (T := T) hh hb e
    rw [eh] at s2
    rw [x66_2]
    by_cases c : bes A h / 2 ^ j % 2 = 1
    · have c2 : ¬ ds A j b = ds A h b - 1 := fun e => l4 j hj ⟨tb_iff.mp c, by omega⟩
      simp (disch := first | assumption | omega | decide) only [x66_0, x66_1, x66_3, x66_4, x66_5, x66_6, x66_7, x66_8, x66_9, x66_10, x66_11, x66_12, x66_13, x66_14, x66_15, x66_16, x66_17, x66_18, x66_19, x66_20, x66_21, x66_22, x66_23, x66_24, x66_25, x66_26, ↓reduceIte, Option.toList, List.nil_append, List.cons_append, nI_add, pk_mul, n_and, n_or, n_xor, nI_leI, nI_ltI, nI_eq, n_z, uI_s, uI_n, bI_n0, bI_n1, bT, bF, if_true, if_false, not_true, not_false_eq_true, pk_div, pk_rem, Nat.reduceEqDiff, Nat.reduceLeDiff, Nat.reduceLT, Nat.reduceAdd, Nat.reduceMul, Nat.reduceSub, Nat.not_lt_zero, Nat.zero_le, reduceCtorEq, ite_self, n_rem, and_self, and_true, true_and, and_false, false_and, lj, jn, c, s1, s2, n_sub (show 1 ≤ ds A h b by omega), dvD_e (show ds A h b - 1 < 8 by omega), c2]
    · simp (disch := first | assumption | omega | decide) only [x66_0, x66_1, x66_3, x66_4, x66_5, x66_6, x66_7, x66_8, x66_9, x66_10, x66_11, x66_12, x66_13, x66_14, x66_15, x66_16, x66_17, x66_18, x66_19, x66_20, x66_21, x66_22, x66_23, x66_24, x66_25, x66_26, ↓reduceIte, Option.toList, List.nil_append, List.cons_append, nI_add, pk_mul, n_and, n_or, n_xor, nI_leI, nI_ltI, nI_eq, n_z, uI_s, uI_n, bI_n0, bI_n1, bT, bF, if_true, if_false, not_true, not_false_eq_true, pk_div, pk_rem, Nat.reduceEqDiff, Nat.reduceLeDiff, Nat.reduceLT, Nat.reduceAdd, Nat.reduceMul, Nat.reduceSub, Nat.not_lt_zero, Nat.zero_le, reduceCtorEq, ite_self, n_rem, and_self, and_true, true_and, and_false, false_and, lj, jn, c])
  simp (disch := first | assumption | omega | decide) only [x66_0, x66_1]
  refine Eq.trans hi ?_
  show Rn _ _ _ _ _ _ _ _ = _
  have lj : ¬ 8 ≤ lw A h b := by omega
  have jn := fun Q => sp_joins (Q := Q) (sc := sc) (d := d) (J := J) (T := T) hh l1 w eB
  have s1 := fun Q => sp_dist (Q := Q) (sc := sc) (d := d) (J := J) (T := T) l1 hb e
  have s2 := fun Q => sp_dist (Q := Q) (sc := sc) (d := d) (J := J) (T := T) hh hb e
  rw [eh] at s2
  have c := tb_iff.mpr l3
  have c2 : ds A (lw A h b) b = ds A h b - 1 := by omega
  rw [x66_2]
  simp (disch := first | assumption | omega | decide) only [x66_0, x66_1, x66_3, x66_4, x66_5, x66_6, x66_7, x66_8, x66_9, x66_10, x66_11, x66_12, x66_13, x66_14, x66_15, x66_16, x66_17, x66_18, x66_19, x66_20, x66_21, x66_22, x66_23, x66_24, x66_25, x66_26, ↓reduceIte, Option.toList, List.nil_append, List.cons_append, nI_add, pk_mul, n_and, n_or, n_xor, nI_leI, nI_ltI, nI_eq, n_z, uI_s, uI_n, bI_n0, bI_n1, bT, bF, if_true, if_false, not_true, not_false_eq_true, pk_div, pk_rem, Nat.reduceEqDiff, Nat.reduceLeDiff, Nat.reduceLT, Nat.reduceAdd, Nat.reduceMul, Nat.reduceSub, Nat.not_lt_zero, Nat.zero_le, reduceCtorEq, ite_self, n_rem, and_self, and_true, true_and, and_false, false_and, lj, jn, c, s1, s2, n_sub (show 1 ≤ ds A h b by omega), dvD_e (show ds A h b - 1 < 8 by omega), c2]
theorem sp_wayC {I : Nat → Nat → Int32} {J : Nat → Nat → Int64} {T : Option Nat} {Q : Option Value → Mm → Prop} {A : Nat → Nat} {a b i : Nat} (ha : a < 8) (hb : b < 8) (h2 : ds A a b < 8) (hi : i ≤ ds A a b) (w : Wf A) (eB : BsC I A) (e : ∀ a h, a < 8 → h < 8 → I 73 (a * 8 + h) = dvD (ds A a h)) : Rn sc (d + 2) 65 0 [some (.ref 72), some (.int (nI a)), some (.int (nI b)), some (.int (nI i)), none, none] [] (K0, I, J, R1 T) Q = Q (some (.int (nI (pth A b a i)))) (K0, I, J, R1 T) := by
  have ht := iter0 (fun j => Rn sc (d + 2) 65 4 [some (.ref 72), some (.int (nI a)), some (.int (nI b)), some (.int (nI i)), some (.int (nI (pth A b a j))), some (.int (nI j))] [] (K0, I, J, R1 T) Q) i (by
    intro j hj
    show Rn _ _ _ _ _ _ _ _ = Rn _ _ _ _ _ _ _ _
    have lj : ¬ i ≤ j := by omega
    obtain ⟨p1, p2⟩ := pth_ok (A := A) ha hb h2 j (by omega)
    have nr := fun Q => sp_nearC (Q := Q) (sc := sc) (d := d) (J := J) (T := T) p1 hb (by omega) (by omega) w eB e
    rw [x65_4, pth]
    simp (disch := first | assumption | omega | decide) only [x65_0, x65_1, x65_2, x65_3, x65_5, x65_6, x65_7, x65_8, x65_9, x65_10, x65_11, x65_12, x65_13, x65_14, x65_15, ↓reduceIte, Option.toList, List.nil_append, List.cons_append, nI_add, pk_mul, n_and, n_or, n_xor, nI_leI, nI_ltI, nI_eq, n_z, uI_s, uI_n, bI_n0, bI_n1, bT, bF, if_true, if_false, not_true, not_false_eq_true, pk_div, pk_rem, Nat.reduceEqDiff, Nat.reduceLeDiff, Nat.reduceLT, Nat.reduceAdd, Nat.reduceMul, Nat.reduceSub, Nat.not_lt_zero, Nat.zero_le, reduceCtorEq, ite_self, n_rem, and_self, and_true, true_and, and_false, false_and, lj, nr])
  simp (disch := first | assumption | omega | decide) only [x65_0, x65_1, x65_2, x65_3]
  refine Eq.trans ht ?_
  show Rn _ _ _ _ _ _ _ _ = _
  rw [x65_4]
  simp (disch := first | assumption | omega | decide) only [x65_0, x65_1, x65_2, x65_3, x65_5, x65_6, x65_7, x65_8, x65_9, x65_10, x65_11, x65_12, x65_13, x65_14, x65_15, ↓reduceIte, Option.toList, List.nil_append, List.cons_append, nI_add, pk_mul, n_and, n_or, n_xor, nI_leI, nI_ltI, nI_eq, n_z, uI_s, uI_n, bI_n0, bI_n1, bT, bF, if_true, if_false, not_true, not_false_eq_true, pk_div, pk_rem, Nat.reduceEqDiff, Nat.reduceLeDiff, Nat.reduceLT, Nat.reduceAdd, Nat.reduceMul, Nat.reduceSub, Nat.not_lt_zero, Nat.zero_le, reduceCtorEq, ite_self, n_rem, and_self, and_true, true_and, and_false, false_and, Nat.le_refl]
theorem sp_nearM {I : Nat → Nat → Int32} {J : Nat → Nat → Int64} {T : Option Nat} {Q : Option Value → Mm → Prop} {A : Nat → Nat} {h a b i j : Nat} (hh : h < 8) (hb : b < 8) (h1 : 0 < ds A h b) (h2 : ds A h b < 8) (w : Wf A) (mA : AtM I 90 A) (e : ∀ h, h < 8 → I 99 h = dvD (ds A h b)) : Rn sc (d + 1) 266 32 [some (.ref 89), some (.int (nI a)), some (.int (nI b)), some (.int (nI i)), some (.int (nI h)), some (.int (nI j)), some (.int (nI 0))] [] (K0, I, J, R1 T) Q = Rn sc (d + 1) 266 27 [some (.ref 89), some (.int (nI a)), some (.int (nI b)), some (.int (nI i)), some (.int (nI (lw A h b))), some (.int (nI (j + 1))), some (.int (nI (lw A h b)))] [] (K0, I, J, R1 T) Q := by
  obtain ⟨l1, l2, l3, l4⟩ := lw_ok (A := A) hh hb h1 h2
  have eh : I 99 h = nI (ds A h b) := (e h hh).trans (dvD_t h2)
  have lb : bes A h < 256 := bes_lt w
  have bm := fun Q => sp_besM (Q := Q) (sc := sc) (d := d) (J := J) (T := T) (u2 := none) (u3 := none) hh w mA
  have hi := iter0 (fun g => Rn sc (d + 1) 266 32 [some (.ref 89), some (.int (nI a)), some (.int (nI b)), some (.int (nI i)), some (.int (nI h)), some (.int (nI j)), some (.int (nI g))] [] (K0, I, J, R1 T) Q) (lw A h b) (by
    intro g hg
    show Rn _ _ _ _ _ _ _ _ = Rn _ _ _ _ _ _ _ _
    have eg := e g (by omega)
    have g8 : g < 8 := by omega
    rw [x266_32]
    by_cases c : bes A h / 2 ^ g % 2 = 1
    · have c2 : ¬ ds A g b = ds A h b - 1 := fun e => l4 g hg ⟨tb_iff.mp c, by omega⟩
      simp (disch := first | assumption | omega | decide) only [x266_0, x266_1, x266_2, x266_3, x266_4, x266_5, x266_6, x266_7, x266_8, x266_9, x266_10, x266_11, x266_12, x266_13, x266_14, x266_15, x266_16, x266_17, x266_18, x266_19, x266_20, x266_21, x266_22, x266_23, x266_24, x266_25, x266_26, x266_28, x266_29, x266_30, x266_31, x266_33, x266_34, x266_35, x266_36, x266_37, x266_38, x266_39, x266_40, x266_41, x266_42, x266_43, x266_44, x266_45, x266_46, x266_47, x266_48, x266_49, x266_50, x266_51, x266_52, x266_53, x266_54, x266_55, x266_56, ↓reduceIte, Option.toList, List.nil_append, List.cons_append, nI_add, pk_mul, n_and, n_or, n_xor, nI_leI, nI_ltI, nI_eq, n_z, uI_s, uI_n, bI_n0, bI_n1, bT, bF, if_true, if_false, not_true, not_false_eq_true, pk_div, pk_rem, Nat.reduceEqDiff, Nat.reduceLeDiff, Nat.reduceLT, Nat.reduceAdd, Nat.reduceMul, Nat.reduceSub, Nat.not_lt_zero, Nat.zero_le, reduceCtorEq, ite_self, n_rem, and_self, and_true, true_and, and_false, false_and, bm, sp_has, c, eg, eh, n_sub (show 1 ≤ ds A h b by omega), dvD_e (show ds A h b - 1 < 8 by omega), c2]
    · simp (disch := first | assumption | omega | decide) only [x266_0, x266_1, x266_2, x266_3, x266_4, x266_5, x266_6, x266_7, x266_8, x266_9, x266_10, x266_11, x266_12, x266_13, x266_14, x266_15, x266_16, x266_17, x266_18, x266_19, x266_20, x266_21, x266_22, x266_23, x266_24, x266_25, x266_26, x266_28, x266_29, x266_30, x266_31, x266_33, x266_34, x266_35, x266_36, x266_37, x266_38, x266_39, x266_40, x266_41, x266_42, x266_43, x266_44, x266_45, x266_46, x266_47, x266_48, x266_49, x266_50, x266_51, x266_52, x266_53, x266_54, x266_55, x266_56, ↓reduceIte, Option.toList, List.nil_append, List.cons_append, nI_add, pk_mul, n_and, n_or, n_xor, nI_leI, nI_ltI, nI_eq, n_z, uI_s, uI_n, bI_n0, bI_n1, bT, bF, if_true, if_false, not_true, not_false_eq_true, pk_div, pk_rem, Nat.reduceEqDiff, Nat.reduceLeDiff, Nat.reduceLT, Nat.reduceAdd, Nat.reduceMul, Nat.reduceSub, Nat.not_lt_zero, Nat.zero_le, reduceCtorEq, ite_self, n_rem, and_self, and_true, true_and, and_false, false_and, bm, sp_has, c])
  refine Eq.trans hi ?_
  show Rn _ _ _ _ _ _ _ _ = _
  have c := tb_iff.mpr l3
  have c2 : ds A (lw A h b) b = ds A h b - 1 := by omega
  have eg := e _ l1
  rw [x266_32]
  simp (disch := first | assumption | omega | decide) only [x266_0, x266_1, x266_2, x266_3, x266_4, x266_5, x266_6, x266_7, x266_8, x266_9, x266_10, x266_11, x266_12, x266_13, x266_14, x266_15, x266_16, x266_17, x266_18, x266_19, x266_20, x266_21, x266_22, x266_23, x266_24, x266_25, x266_26, x266_28, x266_29, x266_30, x266_31, x266_33, x266_34, x266_35, x266_36, x266_37, x266_38, x266_39, x266_40, x266_41, x266_42, x266_43, x266_44, x266_45, x266_46, x266_47, x266_48, x266_49, x266_50, x266_51, x266_52, x266_53, x266_54, x266_55, x266_56, ↓reduceIte, Option.toList, List.nil_append, List.cons_append, nI_add, pk_mul, n_and, n_or, n_xor, nI_leI, nI_ltI, nI_eq, n_z, uI_s, uI_n, bI_n0, bI_n1, bT, bF, if_true, if_false, not_true, not_false_eq_true, pk_div, pk_rem, Nat.reduceEqDiff, Nat.reduceLeDiff, Nat.reduceLT, Nat.reduceAdd, Nat.reduceMul, Nat.reduceSub, Nat.not_lt_zero, Nat.zero_le, reduceCtorEq, ite_self, n_rem, and_self, and_true, true_and, and_false, false_and, bm, sp_has, c, eg, eh, n_sub (show 1 ≤ ds A h b by omega), dvD_e (show ds A h b - 1 < 8 by omega), c2]
theorem jt_path {x y z : Int32} : Jt TX sc (d + 4) 133 266 [some (.ref 0), some (.int x), some (.int y), some (.int z)] [some (.ref 89), some (.int x), some (.int y), some (.int z), none, none, none] := by
  intro A B M w _
  have w' := w
  obtain ⟨wA, wB, wt⟩ := w
  by_cases hx : inR x 8
  · obtain ⟨a, ha, rfl⟩ := hx
    by_cases hy : inR y 8
    · obtain ⟨b, hb, rfl⟩ := hy
      have lay : ∀ I J T, MI I A B → ∃ I1, (∀ h, h < 8 → I1 99 h = dvD (ds A h b)) ∧ (∀ c k, c ≠ 99 → I1 c k = I c k) ∧ ∀ Q, Rn sc (d + 3) 264 0 [some (.ref 89), some (.int (nI b)), some (.int (nI 255)), none, none, none, none, none] [] (K0, I, J, R1 T) Q = Q (some (.int (nI (bl A 255 b 7)))) (K0, I1, J, R1 T) := by
        intro I J T mI
        obtain ⟨I1, k1, f1, q1⟩ := sp_lay (sc := sc) (d := d + 2) (J := J) (T := T) hb (show 255 < 256 by decide) wA mI.1
        exact ⟨I1, fun h hh => by rw [k1 h hh, dv_8, ds_y hb hh], f1, q1⟩
      by_cases hz : ds A a b < 8 ∧ inR z (ds A a b + 1)
      · obtain ⟨h2, i, hi, rfl⟩ := hz
        have ed : dvD (ds A a b) = nI (ds A a b) := dvD_t h2
        refine ⟨nI (pth A b a i), A, B, w', Nat.le_refl _, ?_, ?_⟩
        · intro I J T cI _
          obtain ⟨I1, k1, f1, q1⟩ := sp_measure (sc := sc) (d := d + 2) (J := J) (T := T) (u1 := none) (u2 := none) (u3 := none) (u4 := none) (u5 := none) wA (BsC_of cI)
          have c1 : CI I1 A B := CI_c w' cI (fun c k hc => f1 c k (by omega))
          refine ⟨I1, fun c k hc => f1 c k (by omega), c1, fun Q => ?_⟩
          have wy := fun Q => sp_wayC (Q := Q) (sc := sc) (d := d + 1) (J := J) (T := T) ha hb h2 (show i ≤ ds A a b by omega) wA (BsC_of c1) k1
          simp (disch := first | assumption | omega | decide) only [x133_0, x133_1, x133_2, x133_3, x133_4, x133_5, x133_6, x133_7, x133_8, x133_9, x133_10, x133_11, x133_12, x133_13, x133_14, x133_15, x133_16, x133_17, x133_18, x133_19, x133_20, x133_21, x133_22, x133_23, x133_24, x133_25, x133_26, x133_27, x133_28, ↓reduceIte, Option.toList, List.nil_append, List.cons_append, nI_add, pk_mul, n_and, n_or, n_xor, nI_leI, nI_ltI, nI_eq, n_z, uI_s, uI_n, bI_n0, bI_n1, bT, bF, if_true, if_false, not_true, not_false_eq_true, pk_div, pk_rem, Nat.reduceEqDiff, Nat.reduceLeDiff, Nat.reduceLT, Nat.reduceAdd, Nat.reduceMul, Nat.reduceSub, Nat.not_lt_zero, Nat.zero_le, reduceCtorEq, ite_self, n_rem, and_self, and_true, true_and, and_false, false_and, sp_houC_t, q1, sp_dist ha hb k1, ed, sp_isWithin, ↓in_t, wy]
        · intro I J T mI _
          obtain ⟨I1, k1, f1, q1⟩ := lay I J T mI
          have m1 : MI I1 A B := MI_c mI (fun c k hc => f1 c k (by omega)) (f1 _ _ (by omega))
          have ea : I1 99 a = nI (ds A a b) := (k1 a ha).trans ed
          refine ⟨I1, J, ⟨fun c k hc => f1 c k (by omega), fun k hk => f1 _ _ (by omega)⟩, m1, fun Q => ?_⟩
          obtain ⟨u, -, h3⟩ := iterE (St := Option Value) (fun (_ : Nat) _ => True) (fun j u => Rn sc (d + 4) 266 27 [some (.ref 89), some (.int (nI a)), some (.int (nI b)), some (.int (nI i)), some (.int (nI (pth A b a j))), some (.int (nI j)), u] [] (K0, I1, J, R1 T) Q) i (by
            rintro j u hj -
            obtain ⟨p1, p2⟩ := pth_ok (A := A) ha hb h2 j (by omega)
            have lj : ¬ i ≤ j := by omega
            refine ⟨some (.int (nI (lw A (pth A b a j) b))), trivial, ?_⟩
            show Rn _ _ _ _ _ _ _ _ = Rn _ _ _ _ _ _ _ _
            rw [x266_27, pth]
            simp (disch := first | assumption | omega | decide) only [x266_28, x266_29, x266_30, x266_31, ↓reduceIte, Option.toList, List.nil_append, List.cons_append, nI_add, pk_mul, n_and, n_or, n_xor, nI_leI, nI_ltI, nI_eq, n_z, uI_s, uI_n, bI_n0, bI_n1, bT, bF, if_true, if_false, not_true, not_false_eq_true, pk_div, pk_rem, Nat.reduceEqDiff, Nat.reduceLeDiff, Nat.reduceLT, Nat.reduceAdd, Nat.reduceMul, Nat.reduceSub, Nat.not_lt_zero, Nat.zero_le, reduceCtorEq, ite_self, n_rem, and_self, and_true, true_and, and_false, false_and, lj]
            exact sp_nearM (d := d + 3) p1 hb (by omega) (by omega) wA m1.1 k1) none trivial
          simp (disch := first | assumption | omega | decide) only [x266_0, x266_1, x266_2, x266_3, x266_4, x266_5, x266_6, x266_7, x266_8, x266_9, x266_10, x266_11, x266_12, x266_13, x266_14, x266_15, x266_16, x266_17, x266_18, x266_19, x266_20, x266_21, x266_22, x266_23, x266_24, x266_25, x266_26, ↓reduceIte, Option.toList, List.nil_append, List.cons_append, nI_add, pk_mul, n_and, n_or, n_xor, nI_leI, nI_ltI, nI_eq, n_z, uI_s, uI_n, bI_n0, bI_n1, bT, bF, if_true, if_false, not_true, not_false_eq_true, pk_div, pk_rem, Nat.reduceEqDiff, Nat.reduceLeDiff, Nat.reduceLT, Nat.reduceAdd, Nat.reduceMul, Nat.reduceSub, Nat.not_lt_zero, Nat.zero_le, reduceCtorEq, ite_self, n_rem, and_self, and_true, true_and, and_false, false_and, sp_houM_t, q1, ea, sp_isIn, ↓in_t]
          refine Eq.trans h3 ?_
          show Rn _ _ _ _ _ _ _ _ = _
          rw [x266_27]
          simp (disch := first | assumption | omega | decide) only [x266_28, x266_29, x266_55, x266_56, ↓reduceIte, Option.toList, List.nil_append, List.cons_append, nI_add, pk_mul, n_and, n_or, n_xor, nI_leI, nI_ltI, nI_eq, n_z, uI_s, uI_n, bI_n0, bI_n1, bT, bF, if_true, if_false, not_true, not_false_eq_true, pk_div, pk_rem, Nat.reduceEqDiff, Nat.reduceLeDiff, Nat.reduceLT, Nat.reduceAdd, Nat.reduceMul, Nat.reduceSub, Nat.not_lt_zero, Nat.zero_le, reduceCtorEq, ite_self, n_rem, and_self, and_true, true_and, and_false, false_and, Nat.le_refl]
      · have ez : bI (nI 0 ≤ z ∧ z ≤ dvD (ds A a b)) = nI 0 := by
          by_cases c : ds A a b < 8
          · rw [dvD_t c]
            exact in_f (fun h => hz ⟨c, h⟩) (by omega)
          · rw [dvD_f c]
            exact in_m1
        refine ⟨-2, A, B, w', Nat.le_refl _, ?_, ?_⟩
        · intro I J T cI _
          obtain ⟨I1, k1, f1, q1⟩ := sp_measure (sc := sc) (d := d + 2) (J := J) (T := T) (u1 := none) (u2 := none) (u3 := none) (u4 := none) (u5 := none) wA (BsC_of cI)
          refine ⟨I1, fun c k hc => f1 c k (by omega), CI_c w' cI (fun c k hc => f1 c k (by omega)), fun Q => ?_⟩
          simp (disch := first | assumption | omega | decide) only [x133_0, x133_1, x133_2, x133_3, x133_4, x133_5, x133_6, x133_7, x133_8, x133_9, x133_10, x133_11, x133_12, x133_13, x133_14, x133_15, x133_16, x133_17, x133_18, x133_19, x133_20, x133_21, x133_22, x133_23, x133_24, x133_25, x133_26, x133_27, x133_28, ↓reduceIte, Option.toList, List.nil_append, List.cons_append, nI_add, pk_mul, n_and, n_or, n_xor, nI_leI, nI_ltI, nI_eq, n_z, uI_s, uI_n, bI_n0, bI_n1, bT, bF, if_true, if_false, not_true, not_false_eq_true, pk_div, pk_rem, Nat.reduceEqDiff, Nat.reduceLeDiff, Nat.reduceLT, Nat.reduceAdd, Nat.reduceMul, Nat.reduceSub, Nat.not_lt_zero, Nat.zero_le, reduceCtorEq, ite_self, n_rem, and_self, and_true, true_and, and_false, false_and, sp_houC_t, q1, sp_dist ha hb k1, sp_isWithin, ↓ez]
        · intro I J T mI _
          obtain ⟨I1, k1, f1, q1⟩ := lay I J T mI
          have ea : I1 99 a = dvD (ds A a b) := k1 a ha
          refine ⟨I1, J, ⟨fun c k hc => f1 c k (by omega), fun k hk => f1 _ _ (by omega)⟩, MI_c mI (fun c k hc => f1 c k (by omega)) (f1 _ _ (by omega)), fun Q => ?_⟩
          simp (disch := first | assumption | omega | decide) only [x266_0, x266_1, x266_2, x266_3, x266_4, x266_5, x266_6, x266_7, x266_8, x266_9, x266_10, x266_11, x266_12, x266_13, x266_14, x266_15, x266_16, x266_17, x266_18, x266_19, x266_20, x266_21, x266_22, x266_23, x266_24, x266_25, x266_26, ↓reduceIte, Option.toList, List.nil_append, List.cons_append, nI_add, pk_mul, n_and, n_or, n_xor, nI_leI, nI_ltI, nI_eq, n_z, uI_s, uI_n, bI_n0, bI_n1, bT, bF, if_true, if_false, not_true, not_false_eq_true, pk_div, pk_rem, Nat.reduceEqDiff, Nat.reduceLeDiff, Nat.reduceLT, Nat.reduceAdd, Nat.reduceMul, Nat.reduceSub, Nat.not_lt_zero, Nat.zero_le, reduceCtorEq, ite_self, n_rem, and_self, and_true, true_and, and_false, false_and, sp_houM_t, q1, ea, sp_isIn, ↓ez]
    · refine jtR w' (-2) ?_ ?_ <;> intro I J T Q hI
      · simp (disch := first | assumption | omega | decide) only [x133_0, x133_1, x133_2, x133_3, x133_4, x133_5, x133_6, x133_7, x133_8, x133_9, x133_10, x133_11, x133_12, x133_13, x133_14, x133_15, x133_16, x133_17, x133_18, x133_19, x133_20, x133_21, x133_22, x133_23, x133_24, x133_25, x133_26, x133_27, x133_28, ↓reduceIte, Option.toList, List.nil_append, List.cons_append, nI_add, pk_mul, n_and, n_or, n_xor, nI_leI, nI_ltI, nI_eq, n_z, uI_s, uI_n, bI_n0, bI_n1, bT, bF, if_true, if_false, not_true, not_false_eq_true, pk_div, pk_rem, Nat.reduceEqDiff, Nat.reduceLeDiff, Nat.reduceLT, Nat.reduceAdd, Nat.reduceMul, Nat.reduceSub, Nat.not_lt_zero, Nat.zero_le, reduceCtorEq, ite_self, n_rem, and_self, and_true, true_and, and_false, false_and, sp_houC_t, sp_houC_f hy]
      · simp (disch := first | assumption | omega | decide) only [x266_0, x266_1, x266_2, x266_3, x266_4, x266_5, x266_6, x266_7, x266_8, x266_9, x266_10, x266_11, x266_12, x266_13, x266_14, x266_15, x266_16, x266_17, x266_18, x266_19, x266_20, x266_21, x266_22, x266_23, x266_24, x266_25, x266_26, ↓reduceIte, Option.toList, List.nil_append, List.cons_append, nI_add, pk_mul, n_and, n_or, n_xor, nI_leI, nI_ltI, nI_eq, n_z, uI_s, uI_n, bI_n0, bI_n1, bT, bF, if_true, if_false, not_true, not_false_eq_true, pk_div, pk_rem, Nat.reduceEqDiff, Nat.reduceLeDiff, Nat.reduceLT, Nat.reduceAdd, Nat.reduceMul, Nat.reduceSub, Nat.not_lt_zero, Nat.zero_le, reduceCtorEq, ite_self, n_rem, and_self, and_true, true_and, and_false, false_and, sp_houM_t, sp_houM_f hy]
  · refine jtR w' (-2) ?_ ?_ <;> intro I J T Q hI
    · simp (disch := first | assumption | omega | decide) only [x133_0, x133_1, x133_2, x133_3, x133_4, x133_5, x133_6, x133_7, x133_8, x133_9, x133_10, x133_11, x133_12, x133_13, x133_14, x133_15, x133_16, x133_17, x133_18, x133_19, x133_20, x133_21, x133_22, x133_23, x133_24, x133_25, x133_26, x133_27, x133_28, ↓reduceIte, Option.toList, List.nil_append, List.cons_append, nI_add, pk_mul, n_and, n_or, n_xor, nI_leI, nI_ltI, nI_eq, n_z, uI_s, uI_n, bI_n0, bI_n1, bT, bF, if_true, if_false, not_true, not_false_eq_true, pk_div, pk_rem, Nat.reduceEqDiff, Nat.reduceLeDiff, Nat.reduceLT, Nat.reduceAdd, Nat.reduceMul, Nat.reduceSub, Nat.not_lt_zero, Nat.zero_le, reduceCtorEq, ite_self, n_rem, and_self, and_true, true_and, and_false, false_and, sp_houC_f hx]
    · simp (disch := first | assumption | omega | decide) only [x266_0, x266_1, x266_2, x266_3, x266_4, x266_5, x266_6, x266_7, x266_8, x266_9, x266_10, x266_11, x266_12, x266_13, x266_14, x266_15, x266_16, x266_17, x266_18, x266_19, x266_20, x266_21, x266_22, x266_23, x266_24, x266_25, x266_26, ↓reduceIte, Option.toList, List.nil_append, List.cons_append, nI_add, pk_mul, n_and, n_or, n_xor, nI_leI, nI_ltI, nI_eq, n_z, uI_s, uI_n, bI_n0, bI_n1, bT, bF, if_true, if_false, not_true, not_false_eq_true, pk_div, pk_rem, Nat.reduceEqDiff, Nat.reduceLeDiff, Nat.reduceLT, Nat.reduceAdd, Nat.reduceMul, Nat.reduceSub, Nat.not_lt_zero, Nat.zero_le, reduceCtorEq, ite_self, n_rem, and_self, and_true, true_and, and_false, false_and, sp_houM_f hx]
end Path
