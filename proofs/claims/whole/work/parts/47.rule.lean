/-! rents of both sides; the ruling law; believes and rent -/
theorem lw_or (tx : Nat) : (∃ a, LwC tx = .ref a) ∨ LwC tx = .null := by
  unfold LwC
  split
  · exact Or.inl ⟨_, rfl⟩
  · exact Or.inr rfl
theorem rnt_ex4 {M : Nat → Nat → Int32} {tx : Nat} (h : tx = 4294967295 ∨ (tx < 4 ∧ TXp M tx)) : ∃ g, RntC M tx g ∧ RntM M tx g ∧ Ind g ∧ ∀ A h r, Wf A → h < 8 → r < A 1 → g A h r ≤ 99 := by
  have hi : Ind (fun (A : Nat → Nat) (_ r : Nat) => pcN (kpr A r) * (1 + A (64 + r))) := by
    intro A A' h r w0 hh hr e
    show pcN (kpr A' r) * (1 + A' (64 + r)) = pcN (kpr A r) * (1 + A (64 + r))
    rw [kpr_c (fun j hj => e (12 + j) (by omega) (by omega)), e (64 + r) (by omega) (by omega)]
  have hd : ∀ A h r, Wf A → h < 8 → r < A 1 → pcN (kpr A r) * (1 + A (64 + r)) ≤ 99 := by
    intro A h r w hh hr
    have l1 := pc_8 _ (kpr_lt (A := A) (r := r))
    have l2 := w.2.1.2.2.2.2.1 r (by have := w.1.2.1; omega)
    have := Nat.mul_le_mul l1 (show 1 + A (64 + r) ≤ 2 by omega)
    omega
  rcases h with rfl | ⟨ht, n, W, F, S, hn, e0, e1, hk, hL⟩
  · refine ⟨fun A _ r => pcN (kpr A r) * (1 + A (64 + r)), ?_, ?_, hi, hd⟩
    · intro sc d J T A I h r w hh hr hM
      refine ⟨fun t => ⟨I, fun _ _ _ => rfl, fun Q => ?_⟩, fun t => ⟨I, fun _ _ _ => rfl, fun Q => ?_⟩⟩
      · rw [show LwC 4294967295 = .null from rfl]
        exact sp_chg0a w hr t
      · rw [show LwC 4294967295 = .null from rfl]
        exact sp_chg0b w hr t
    · intro sc d J T A I h r w hh hr hM m
      obtain ⟨I1, f1, n1, q1⟩ := sp_rntA (sc := sc) (d := d) (J := J) (T := T) (tx := 4294967295) w hh hr m
      refine ⟨I1, J, fun c k hc => f1 c k hc.1, fun Q => ?_⟩
      rw [q1, ← n_m1]
      simp (disch := first | assumption | omega | decide) only [sp_says0, x231_38, ↓reduceIte, Option.toList, List.nil_append, List.cons_append, nI_add, pk_mul, n_and, n_or, n_xor, nI_leI, nI_ltI, nI_eq, n_z, uI_s, uI_n, bI_n0, bI_n1, bT, bF, if_true, if_false, not_true, not_false_eq_true, pk_div, pk_rem, Nat.reduceEqDiff, Nat.reduceLeDiff, Nat.reduceLT, Nat.reduceAdd, Nat.reduceMul, Nat.reduceSub, Nat.not_lt_zero, Nat.zero_le, reduceCtorEq, ite_self, n_rem, and_self, and_true, true_and, and_false, false_and]
  · rcases hL 1 (by decide) with ⟨h1, h2⟩ | ⟨k, i, e, p, q, code, mo, mv, den, k1, k2, k3, i1, i2, i3, i4, i5, p1, p2, p3, p4, p5, r1, r2⟩
    · refine ⟨fun A _ r => pcN (kpr A r) * (1 + A (64 + r)), ?_, ?_, hi, hd⟩
      · intro sc d J T A I h r w hh hr hM
        have g1 : I (50 + 5 * tx) 1 = -1 := by rw [← txI_g (I := I) (by omega), hM]; exact h1
        refine ⟨fun t => ⟨I, fun _ _ _ => rfl, fun Q => ?_⟩, fun t => ⟨I, fun _ _ _ => rfl, fun Q => ?_⟩⟩
        · rw [show LwC tx = .ref (47 + 5 * tx) from if_pos ht]
          exact sp_chgNa ht w hr t g1
        · rw [show LwC tx = .ref (47 + 5 * tx) from if_pos ht]
          exact sp_chgNb ht w hr t g1
      · intro sc d J T A I h r w hh hr hM m
        obtain ⟨I1, f1, n1, q1⟩ := sp_rntA (sc := sc) (d := d) (J := J) (T := T) (tx := tx) w hh hr m
        have g : ∀ k, I1 92 k = M 92 k := fun k => by rw [f1 _ _ (by omega), ← txI_g (I := I) (by omega), hM]
        refine ⟨I1, J, fun c k hc => f1 c k hc.1, fun Q => ?_⟩
        rw [q1, sp_saysN ht (by decide) hn ((g _).trans e1) (fun k hk' => ⟨(g _).trans (hk k hk').2.2.2.2.1, (hk k hk').1⟩) h2]
        simp (disch := first | assumption | omega | decide) only [x231_38, ↓reduceIte, Option.toList, List.nil_append, List.cons_append, nI_add, pk_mul, n_and, n_or, n_xor, nI_leI, nI_ltI, nI_eq, n_z, uI_s, uI_n, bI_n0, bI_n1, bT, bF, if_true, if_false, not_true, not_false_eq_true, pk_div, pk_rem, Nat.reduceEqDiff, Nat.reduceLeDiff, Nat.reduceLT, Nat.reduceAdd, Nat.reduceMul, Nat.reduceSub, Nat.not_lt_zero, Nat.zero_le, reduceCtorEq, ite_self, n_rem, and_self, and_true, true_and, and_false, false_and]
    · refine ⟨fun A h r => vN (clI (nI 0) (den (nmA A h r) (kpA A))), ?_, ?_, den_ind (fun x y => vN (clI (nI 0) (den x y))), ?_⟩
      · intro sc d J T A I h r w hh hr hM
        have g : ∀ c k, (46 ≤ c ∧ c ≤ 66) ∨ c = 92 → I c k = M c k := fun c k hc => by rw [← txI_g (I := I) hc, hM]
        obtain ⟨s, hs⟩ := r1 _ _ (ok_A w hh hr)
        rw [show LwC tx = .ref (47 + 5 * tx) from if_pos ht, nI_vN]
        exact ⟨fun t => sp_chgYa ht w hh hr t i2 ((g _ _ (by omega)).trans i3) ((g _ _ (by omega)).trans i4) i1 (fun k hk => (g _ _ (by omega)).trans (i5 k hk).1) (fun k hk => (i5 k hk).2) hs, fun t => sp_chgYb ht w hh hr t i2 ((g _ _ (by omega)).trans i3) ((g _ _ (by omega)).trans i4) i1 (fun k hk => (g _ _ (by omega)).trans (i5 k hk).1) (fun k hk => (i5 k hk).2) hs⟩
      · intro sc d J T A I h r w hh hr hM m
        obtain ⟨I1, f1, n1, q1⟩ := sp_rntA (sc := sc) (d := d) (J := J) (T := T) (tx := tx) w hh hr m
        have g : ∀ k, I1 92 k = M 92 k := fun k => by rw [f1 _ _ (by omega), ← txI_g (I := I) (by omega), hM]
        obtain ⟨I2, J2, f2, g2, q2⟩ := sp_saysY (sc := sc) (d := d) (T := T) (J := J) (u := none) (x := nI (pcN (kpr A r) * (1 + A (64 + r)))) (lo := nI 0) (by decide) w (AtM_c m (fun k => f1 _ _ (by omega))) ht (show 1 < 2 by decide) hn ((g _).trans e1) (fun k hk' => ⟨(g _).trans (hk k hk').2.2.2.2.1, (hk k hk').1⟩) k1 k2 k3 ((g _).trans p1) ((g _).trans p2) p3 p4 (fun j hj => ⟨(g _).trans (p5 j hj).1, (g _).trans (p5 j hj).2.1, (p5 j hj).2.2⟩) n1 (r2 _ _ (ok_A w hh hr))
        refine ⟨I2, J2, fun c k hc => (f2 c k hc.2).trans (f1 c k hc.1), fun Q => ?_⟩
        rw [q1, q2, nI_vN]
        simp (disch := first | assumption | omega | decide) only [x231_38, ↓reduceIte, Option.toList, List.nil_append, List.cons_append, nI_add, pk_mul, n_and, n_or, n_xor, nI_leI, nI_ltI, nI_eq, n_z, uI_s, uI_n, bI_n0, bI_n1, bT, bF, if_true, if_false, not_true, not_false_eq_true, pk_div, pk_rem, Nat.reduceEqDiff, Nat.reduceLeDiff, Nat.reduceLT, Nat.reduceAdd, Nat.reduceMul, Nat.reduceSub, Nat.not_lt_zero, Nat.zero_le, reduceCtorEq, ite_self, n_rem, and_self, and_true, true_and, and_false, false_and]
      · intro A h r w hh hr
        obtain ⟨p, hp, e⟩ := cl_nat (den (nmA A h r) (kpA A))
        show vN (clI (nI 0) (den (nmA A h r) (kpA A))) ≤ 99
        rw [e, vN_nI (by omega)]
        exact hp
theorem rnt_ex {M : Nat → Nat → Int32} {tx : Nat} (h : tx = 4294967295 ∨ (tx < 4 ∧ TXp M tx)) : ∃ g, RntC M tx g ∧ RntM M tx g ∧ ∀ A h r, Wf A → h < 8 → r < A 1 → g A h r ≤ 99 := by
  obtain ⟨g, a, b, c, e⟩ := rnt_ex4 h
  exact ⟨g, a, b, e⟩
theorem vr_46 {T : Option Nat} {q : Nat} (h : q < 4) : valR (R1 T 46 q) = .ref (47 + 5 * q) := by
  have : q = 0 ∨ q = 1 ∨ q = 2 ∨ q = 3 := by omega
  rcases this with rfl | rfl | rfl | rfl <;> rfl
/-- the law that rules is one that both hold -/
theorem law_ok {M : Nat → Nat → Int32} {A : Nat → Nat} (w : Wf A) (h : TT TXp M A) : A 3 = 4294967295 ∨ (A 3 < 4 ∧ TXp M (A 3)) := by
  have w2 : A 2 ≤ 4 := w.1.2.2.1
  rcases w.1.2.2.2.1 with h3 | h3
  · exact Or.inl h3
  · exact Or.inr ⟨by omega, h _ h3⟩
section Rule
variable {sc : Sc} {d : Nat} {I : Nat → Nat → Int32} {J : Nat → Nat → Int64} {T : Option Nat} {A : Nat → Nat}
theorem sp_ruling {Q : Option Value → Mm → Prop} (w : Wf A) (t : Twn I 1 2 3 4 5 6 7 8 9 A) : Rn sc (d + 1) 163 0 [some (.ref 0)] [] (K0, I, J, R1 T) Q = Q (some (LwC (A 3))) (K0, I, J, R1 T) := by
  have w2 : A 2 ≤ 4 := w.1.2.2.1
  rcases w.1.2.2.2.1 with h3 | h3
  · have hx : ¬ inR (nI (A 3)) (A 2) := by rw [h3]; exact inR_m n_m1.symm (by omega)
    rw [show LwC (A 3) = .null by rw [h3]; rfl]
    simp (disch := first | assumption | omega | decide) only [x163_0, x163_1, x163_2, x163_3, x163_4, x163_5, x163_6, x163_7, x163_8, x163_9, x163_10, x163_11, x163_12, x163_13, x163_14, x163_15r, x163_15n, ↓reduceIte, Option.toList, List.nil_append, List.cons_append, nI_add, pk_mul, n_and, n_or, n_xor, nI_leI, nI_ltI, nI_eq, n_z, uI_s, uI_n, bI_n0, bI_n1, bT, bF, if_true, if_false, not_true, not_false_eq_true, pk_div, pk_rem, Nat.reduceEqDiff, Nat.reduceLeDiff, Nat.reduceLT, Nat.reduceAdd, Nat.reduceMul, Nat.reduceSub, Nat.not_lt_zero, Nat.zero_le, reduceCtorEq, ite_self, n_rem, and_self, and_true, true_and, and_false, false_and, tw_ruling t, sp_txtC_fa hx w2 (tw_texts t)]
  · rw [show LwC (A 3) = .ref (47 + 5 * A 3) from if_pos (by omega)]
    simp (disch := first | assumption | omega | decide) only [x163_0, x163_1, x163_2, x163_3, x163_4, x163_5, x163_6, x163_7, x163_8, x163_9, x163_10, x163_11, x163_12, x163_13, x163_14, x163_15r, x163_15n, ↓reduceIte, Option.toList, List.nil_append, List.cons_append, nI_add, pk_mul, n_and, n_or, n_xor, nI_leI, nI_ltI, nI_eq, n_z, uI_s, uI_n, bI_n0, bI_n1, bT, bF, if_true, if_false, not_true, not_false_eq_true, pk_div, pk_rem, Nat.reduceEqDiff, Nat.reduceLeDiff, Nat.reduceLT, Nat.reduceAdd, Nat.reduceMul, Nat.reduceSub, Nat.not_lt_zero, Nat.zero_le, reduceCtorEq, ite_self, n_rem, and_self, and_true, true_and, and_false, false_and, tw_ruling t, sp_txtC_ta h3 w2 (tw_texts t), vr_46]
theorem jt_believes {x y : Int32} : Jt TXp sc (d + 7) 127 254 [some (.ref 0), some (.int x), some (.int y)] [some (.ref 89), some (.int x), some (.int y)] := by
  intro A B M w hX
  have w' := w
  obtain ⟨wA, wB, wt⟩ := w
  have w1 : A 1 ≤ 4 := wA.1.2.1
  by_cases hx : inR x 8
  · obtain ⟨h, hh, rfl⟩ := hx
    by_cases hy : inR y (A 1)
    · obtain ⟨r, hr, rfl⟩ := hy
      obtain ⟨f, hC, hM⟩ := bel_ex (law_ok wA hX)
      refine ⟨f A h r, A, B, w', Nat.le_refl _, ?_, ?_⟩
      · intro I J T cI eM
        obtain ⟨I1, f1, q1⟩ := (hC sc (d + 2) J T A I h r wA hh hr eM).1 cI.1
        refine ⟨I1, fun c k hc => f1 c k (by omega), CI_c w' cI (fun c k hc => f1 c k (by omega)), fun Q => ?_⟩
        have hq := q1
        have hr' := fun Q => sp_ruling (Q := Q) (sc := sc) (d := d + 5) (J := J) (T := T) wA cI.1
        rcases lw_or (A 3) with ⟨a, e⟩ | e <;> rw [e] at hq hr' <;> simp (disch := first | assumption | omega | decide) only [x127_0, x127_1, x127_2, x127_3, x127_4, x127_5, x127_6, x127_7, x127_8, x127_9, x127_10, x127_11, x127_12, x127_13, x127_14, x127_15, x127_16, x127_17, x127_18r, x127_18n, x127_19, ↓reduceIte, Option.toList, List.nil_append, List.cons_append, nI_add, pk_mul, n_and, n_or, n_xor, nI_leI, nI_ltI, nI_eq, n_z, uI_s, uI_n, bI_n0, bI_n1, bT, bF, if_true, if_false, not_true, not_false_eq_true, pk_div, pk_rem, Nat.reduceEqDiff, Nat.reduceLeDiff, Nat.reduceLT, Nat.reduceAdd, Nat.reduceMul, Nat.reduceSub, Nat.not_lt_zero, Nat.zero_le, reduceCtorEq, ite_self, n_rem, and_self, and_true, true_and, and_false, false_and, sp_houC_t hh, sp_rumC_ta hr w1 (tw_rumours cI.1), hr', hq]
      · intro I J T mI eM
        obtain ⟨I1, J1, f1, q1⟩ := hM sc (d + 1) J T A I h r wA hh hr eM mI.1 rfl
        refine ⟨I1, J1, ⟨fun c k hc => f1 c k (by omega), fun k hk => f1 _ _ (by omega)⟩, MI_c mI (fun c k hc => f1 c k (by omega)) (f1 _ _ (by omega)), fun Q => ?_⟩
        simp (disch := first | assumption | omega | decide) only [x254_0, x254_1, x254_2, x254_3, x254_4, x254_5, x254_6, x254_7, x254_8, x254_9, x254_10, x254_11, x254_12, x254_13, ↓reduceIte, Option.toList, List.nil_append, List.cons_append, nI_add, pk_mul, n_and, n_or, n_xor, nI_leI, nI_ltI, nI_eq, n_z, uI_s, uI_n, bI_n0, bI_n1, bT, bF, if_true, if_false, not_true, not_false_eq_true, pk_div, pk_rem, Nat.reduceEqDiff, Nat.reduceLeDiff, Nat.reduceLT, Nat.reduceAdd, Nat.reduceMul, Nat.reduceSub, Nat.not_lt_zero, Nat.zero_le, reduceCtorEq, ite_self, n_rem, and_self, and_true, true_and, and_false, false_and, sp_houM_t hh, sp_rumM_t hr w1 (mI.1 1 (by decide)), q1]
    · refine jtR w' (-100) ?_ ?_ <;> intro I J T Q hI
      · simp (disch := first | assumption | omega | decide) only [x127_0, x127_1, x127_2, x127_3, x127_4, x127_5, x127_6, x127_7, x127_8, x127_9, x127_10, x127_11, x127_12, x127_13, x127_14, x127_15, x127_16, x127_17, x127_18r, x127_18n, x127_19, ↓reduceIte, Option.toList, List.nil_append, List.cons_append, nI_add, pk_mul, n_and, n_or, n_xor, nI_leI, nI_ltI, nI_eq, n_z, uI_s, uI_n, bI_n0, bI_n1, bT, bF, if_true, if_false, not_true, not_false_eq_true, pk_div, pk_rem, Nat.reduceEqDiff, Nat.reduceLeDiff, Nat.reduceLT, Nat.reduceAdd, Nat.reduceMul, Nat.reduceSub, Nat.not_lt_zero, Nat.zero_le, reduceCtorEq, ite_self, n_rem, and_self, and_true, true_and, and_false, false_and, sp_houC_t, sp_rumC_fa hy w1 (tw_rumours hI.1)]
      · simp (disch := first | assumption | omega | decide) only [x254_0, x254_1, x254_2, x254_3, x254_4, x254_5, x254_6, x254_7, x254_8, x254_9, x254_10, x254_11, x254_12, x254_13, ↓reduceIte, Option.toList, List.nil_append, List.cons_append, nI_add, pk_mul, n_and, n_or, n_xor, nI_leI, nI_ltI, nI_eq, n_z, uI_s, uI_n, bI_n0, bI_n1, bT, bF, if_true, if_false, not_true, not_false_eq_true, pk_div, pk_rem, Nat.reduceEqDiff, Nat.reduceLeDiff, Nat.reduceLT, Nat.reduceAdd, Nat.reduceMul, Nat.reduceSub, Nat.not_lt_zero, Nat.zero_le, reduceCtorEq, ite_self, n_rem, and_self, and_true, true_and, and_false, false_and, sp_houM_t, sp_rumM_f hy w1 (hI.1 1 (by decide))]
  · refine jtR w' (-100) ?_ ?_ <;> intro I J T Q hI
    · simp (disch := first | assumption | omega | decide) only [x127_0, x127_1, x127_2, x127_3, x127_4, x127_5, x127_6, x127_7, x127_8, x127_9, x127_10, x127_11, x127_12, x127_13, x127_14, x127_15, x127_16, x127_17, x127_18r, x127_18n, x127_19, ↓reduceIte, Option.toList, List.nil_append, List.cons_append, nI_add, pk_mul, n_and, n_or, n_xor, nI_leI, nI_ltI, nI_eq, n_z, uI_s, uI_n, bI_n0, bI_n1, bT, bF, if_true, if_false, not_true, not_false_eq_true, pk_div, pk_rem, Nat.reduceEqDiff, Nat.reduceLeDiff, Nat.reduceLT, Nat.reduceAdd, Nat.reduceMul, Nat.reduceSub, Nat.not_lt_zero, Nat.zero_le, reduceCtorEq, ite_self, n_rem, and_self, and_true, true_and, and_false, false_and, sp_houC_f hx]
    · simp (disch := first | assumption | omega | decide) only [x254_0, x254_1, x254_2, x254_3, x254_4, x254_5, x254_6, x254_7, x254_8, x254_9, x254_10, x254_11, x254_12, x254_13, ↓reduceIte, Option.toList, List.nil_append, List.cons_append, nI_add, pk_mul, n_and, n_or, n_xor, nI_leI, nI_ltI, nI_eq, n_z, uI_s, uI_n, bI_n0, bI_n1, bT, bF, if_true, if_false, not_true, not_false_eq_true, pk_div, pk_rem, Nat.reduceEqDiff, Nat.reduceLeDiff, Nat.reduceLT, Nat.reduceAdd, Nat.reduceMul, Nat.reduceSub, Nat.not_lt_zero, Nat.zero_le, reduceCtorEq, ite_self, n_rem, and_self, and_true, true_and, and_false, false_and, sp_houM_f hx]
theorem jt_rent {x y : Int32} : Jt TXp sc (d + 7) 128 255 [some (.ref 0), some (.int x), some (.int y)] [some (.ref 89), some (.int x), some (.int y)] := by
  intro A B M w hX
  have w' := w
  obtain ⟨wA, wB, wt⟩ := w
  have w1 : A 1 ≤ 4 := wA.1.2.1
  by_cases hx : inR x 8
  · obtain ⟨h, hh, rfl⟩ := hx
    by_cases hy : inR y (A 1)
    · obtain ⟨r, hr, rfl⟩ := hy
      obtain ⟨g, hC, hM, hB⟩ := rnt_ex (law_ok wA hX)
      refine ⟨nI (g A h r), A, B, w', Nat.le_refl _, ?_, ?_⟩
      · intro I J T cI eM
        obtain ⟨I1, f1, q1⟩ := (hC sc (d + 2) J T A I h r wA hh hr eM).1 cI.1
        refine ⟨I1, fun c k hc => f1 c k (by omega), CI_c w' cI (fun c k hc => f1 c k (by omega)), fun Q => ?_⟩
        have hq := q1
        have hr' := fun Q => sp_ruling (Q := Q) (sc := sc) (d := d + 5) (J := J) (T := T) wA cI.1
        rcases lw_or (A 3) with ⟨a, e⟩ | e <;> rw [e] at hq hr' <;> simp (disch := first | assumption | omega | decide) only [x128_0, x128_1, x128_2, x128_3, x128_4, x128_5, x128_6, x128_7, x128_8, x128_9, x128_10, x128_11, x128_12, x128_13, x128_14, x128_15, x128_16, x128_17, x128_18r, x128_18n, x128_19, ↓reduceIte, Option.toList, List.nil_append, List.cons_append, nI_add, pk_mul, n_and, n_or, n_xor, nI_leI, nI_ltI, nI_eq, n_z, uI_s, uI_n, bI_n0, bI_n1, bT, bF, if_true, if_false, not_true, not_false_eq_true, pk_div, pk_rem, Nat.reduceEqDiff, Nat.reduceLeDiff, Nat.reduceLT, Nat.reduceAdd, Nat.reduceMul, Nat.reduceSub, Nat.not_lt_zero, Nat.zero_le, reduceCtorEq, ite_self, n_rem, and_self, and_true, true_and, and_false, false_and, sp_houC_t hh, sp_rumC_ta hr w1 (tw_rumours cI.1), hr', hq]
      · intro I J T mI eM
        have m : ∀ k, k < 1799 → I 90 k = nI (A k) := mI.1
        obtain ⟨I1, J1, f1, q1⟩ := hM sc (d + 1) J T A I h r wA hh hr eM mI.1
        refine ⟨I1, J1, ⟨fun c k hc => f1 c k (by omega), fun k hk => f1 _ _ (by omega)⟩, MI_c mI (fun c k hc => f1 c k (by omega)) (f1 _ _ (by omega)), fun Q => ?_⟩
        simp (disch := first | assumption | omega | decide) only [x255_0, x255_1, x255_2, x255_3, x255_4, x255_5, x255_6, x255_7, x255_8, x255_9, x255_10, x255_11, x255_12, x255_13, x255_14, x255_15, x255_16, x255_17, ↓reduceIte, Option.toList, List.nil_append, List.cons_append, nI_add, pk_mul, n_and, n_or, n_xor, nI_leI, nI_ltI, nI_eq, n_z, uI_s, uI_n, bI_n0, bI_n1, bT, bF, if_true, if_false, not_true, not_false_eq_true, pk_div, pk_rem, Nat.reduceEqDiff, Nat.reduceLeDiff, Nat.reduceLT, Nat.reduceAdd, Nat.reduceMul, Nat.reduceSub, Nat.not_lt_zero, Nat.zero_le, reduceCtorEq, ite_self, n_rem, and_self, and_true, true_and, and_false, false_and, sp_houM_t hh, sp_rumM_t hr w1 (mI.1 1 (by decide)), m, q1]
    · refine jtR w' (-100) ?_ ?_ <;> intro I J T Q hI
      · simp (disch := first | assumption | omega | decide) only [x128_0, x128_1, x128_2, x128_3, x128_4, x128_5, x128_6, x128_7, x128_8, x128_9, x128_10, x128_11, x128_12, x128_13, x128_14, x128_15, x128_16, x128_17, x128_18r, x128_18n, x128_19, ↓reduceIte, Option.toList, List.nil_append, List.cons_append, nI_add, pk_mul, n_and, n_or, n_xor, nI_leI, nI_ltI, nI_eq, n_z, uI_s, uI_n, bI_n0, bI_n1, bT, bF, if_true, if_false, not_true, not_false_eq_true, pk_div, pk_rem, Nat.reduceEqDiff, Nat.reduceLeDiff, Nat.reduceLT, Nat.reduceAdd, Nat.reduceMul, Nat.reduceSub, Nat.not_lt_zero, Nat.zero_le, reduceCtorEq, ite_self, n_rem, and_self, and_true, true_and, and_false, false_and, sp_houC_t, sp_rumC_fa hy w1 (tw_rumours hI.1)]
      · simp (disch := first | assumption | omega | decide) only [x255_0, x255_1, x255_2, x255_3, x255_4, x255_5, x255_6, x255_7, x255_8, x255_9, x255_10, x255_11, x255_12, x255_13, x255_14, x255_15, x255_16, x255_17, ↓reduceIte, Option.toList, List.nil_append, List.cons_append, nI_add, pk_mul, n_and, n_or, n_xor, nI_leI, nI_ltI, nI_eq, n_z, uI_s, uI_n, bI_n0, bI_n1, bT, bF, if_true, if_false, not_true, not_false_eq_true, pk_div, pk_rem, Nat.reduceEqDiff, Nat.reduceLeDiff, Nat.reduceLT, Nat.reduceAdd, Nat.reduceMul, Nat.reduceSub, Nat.not_lt_zero, Nat.zero_le, reduceCtorEq, ite_self, n_rem, and_self, and_true, true_and, and_false, false_and, sp_houM_t, sp_rumM_f hy w1 (hI.1 1 (by decide))]
  · refine jtR w' (-100) ?_ ?_ <;> intro I J T Q hI
    · simp (disch := first | assumption | omega | decide) only [x128_0, x128_1, x128_2, x128_3, x128_4, x128_5, x128_6, x128_7, x128_8, x128_9, x128_10, x128_11, x128_12, x128_13, x128_14, x128_15, x128_16, x128_17, x128_18r, x128_18n, x128_19, ↓reduceIte, Option.toList, List.nil_append, List.cons_append, nI_add, pk_mul, n_and, n_or, n_xor, nI_leI, nI_ltI, nI_eq, n_z, uI_s, uI_n, bI_n0, bI_n1, bT, bF, if_true, if_false, not_true, not_false_eq_true, pk_div, pk_rem, Nat.reduceEqDiff, Nat.reduceLeDiff, Nat.reduceLT, Nat.reduceAdd, Nat.reduceMul, Nat.reduceSub, Nat.not_lt_zero, Nat.zero_le, reduceCtorEq, ite_self, n_rem, and_self, and_true, true_and, and_false, false_and, sp_houC_f hx]
    · simp (disch := first | assumption | omega | decide) only [x255_0, x255_1, x255_2, x255_3, x255_4, x255_5, x255_6, x255_7, x255_8, x255_9, x255_10, x255_11, x255_12, x255_13, x255_14, x255_15, x255_16, x255_17, ↓reduceIte, Option.toList, List.nil_append, List.cons_append, nI_add, pk_mul, n_and, n_or, n_xor, nI_leI, nI_ltI, nI_eq, n_z, uI_s, uI_n, bI_n0, bI_n1, bT, bF, if_true, if_false, not_true, not_false_eq_true, pk_div, pk_rem, Nat.reduceEqDiff, Nat.reduceLeDiff, Nat.reduceLT, Nat.reduceAdd, Nat.reduceMul, Nat.reduceSub, Nat.not_lt_zero, Nat.zero_le, reduceCtorEq, ite_self, n_rem, and_self, and_true, true_and, and_false, false_and, sp_houM_f hx]
end Rule
