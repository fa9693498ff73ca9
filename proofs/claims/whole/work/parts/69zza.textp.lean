/-! text -/
theorem LawY_c {M M' : Nat → Nat → Int32} {t L n : Nat} {W : Nat → Nat} (hn : n ≤ 24) (h : LawY M t L n W) (hL : L < 2) (e1 : ∀ c k, 47 + 5 * t ≤ c → c ≤ 51 + 5 * t → M' c k = M c k) (e2 : ∀ k, 681 * t ≤ k → k < 681 * t + 681 → M' 92 k = M 92 k) : LawY M' t L n W := by
  obtain ⟨k, i, e, p, q, code, mo, mv, den, h1, h2, h3, h4, h5, h6, h7, h8, h9, h10, h11, h12, h13, h14, h15⟩ := h
  refine ⟨k, i, e, p, q, code, mo, mv, den, h1, h2, h3, h4, h5, (e1 _ _ (by omega) (by omega)).trans h6, (e1 _ _ (by omega) (by omega)).trans h7, fun j hj => ⟨(e1 _ _ (by omega) (by omega)).trans (h8 j hj).1, (h8 j hj).2⟩, (e2 _ (by omega) (by omega)).trans h9, (e2 _ (by omega) (by omega)).trans h10, h11, h12, fun j hj => ⟨(e2 _ (by omega) (by omega)).trans (h13 j hj).1, (e2 _ (by omega) (by omega)).trans (h13 j hj).2.1, (h13 j hj).2.2⟩, h14, h15⟩
theorem TXp_c {M M' : Nat → Nat → Int32} {t : Nat} (h : TXp M t) (e1 : ∀ c k, 47 + 5 * t ≤ c → c ≤ 51 + 5 * t → M' c k = M c k) (e2 : ∀ k, 681 * t ≤ k → k < 681 * t + 681 → M' 92 k = M 92 k) : TXp M' t := by
  obtain ⟨n, W, F, S, h1, h2, h3, h4, h5⟩ := h
  refine ⟨n, W, F, S, h1, (e1 _ _ (by omega) (by omega)).trans h2, (e2 _ (by omega) (by omega)).trans h3, fun k hk => ?_, fun L hL => ?_⟩
  · obtain ⟨a1, a2, a3, a4, a5, a6, a7, a8⟩ := h4 k hk
    exact ⟨a1, a2, a3, (e1 _ _ (by omega) (by omega)).trans a4, (e2 _ (by omega) (by omega)).trans a5, fun q => (e2 _ (by omega) (by omega)).trans (a6 q), fun q q2 => (e2 _ (by omega) (by omega)).trans (a7 q q2), a8⟩
  · rcases h5 L hL with q | q
    · exact Or.inl ⟨(e1 _ _ (by omega) (by omega)).trans q.1, q.2⟩
    · exact Or.inr (LawY_c h1 q hL e1 e2)
theorem gd_mem {α : Type} {l : List α} {j : Nat} {x : α} (h : j < l.length) : l.getD j x ∈ l := by
  rw [List.getD_eq_getElem?_getD, List.getElem?_eq_getElem h]
  exact List.getElem_mem h
theorem tx_new {I : Nat → Nat → Int32} {t : Nat} {cl : List (Nat × Nat × Nat)} {lw : Nat → Option (Nat × Nat × Nat × Nat × Nat)} {cs : List Nat} {out : List (Nat × Nat)} (ht : t < 4) (c1 : ∀ j, j < cs.length → I (48 + 5 * t) j = nI (cs.getD j 0)) (c2 : ClC I t cl lw) (c3 : cs.length ≤ 300) (m1 : ∀ j, j < out.length → I 92 (681 * t + 73 + 2 * j) = nI (out.getD j (0, 0)).1 ∧ I 92 (681 * t + 73 + 2 * j + 1) = nI (out.getD j (0, 0)).2) (m2 : out.length ≤ 300) (m0 : I 92 (681 * t) = nI cl.length) (m24 : cl.length ≤ 24) (m3 : ∀ k, k < cl.length → ((g3 cl k).1 ≤ 7 ∧ (g3 cl k).2.1 ≤ 60 ∧ (g3 cl k).2.2 ≤ 999) ∧ I 92 (681 * t + 1 + 3 * k) = nI (g3 cl k).1 ∧ (2 ≤ (g3 cl k).1 → I 92 (681 * t + 1 + 3 * k + 1) = nI (g3 cl k).2.1) ∧ (2 ≤ (g3 cl k).1 → (g3 cl k).1 ≤ 6 → I 92 (681 * t + 1 + 3 * k + 2) = nI (g3 cl k).2.2)) (m4 : ∀ L, L < 2 → ∀ k i e p q, lw L = some (k, i, e, p, q) → k < cl.length ∧ I 92 (681 * t + 1 + 3 * k + 1) = nI p ∧ I 92 (681 * t + 1 + 3 * k + 2) = nI q) (g : GdL (cl, lw, cs, out)) : TXp (txI I) t := by
  obtain ⟨v1, v2, v3⟩ := c2
  obtain ⟨g1, g2, g3'⟩ := g
  have g1 : ∀ x, x ∈ cs → x < 2 ^ 20 := g1
  have g2 : ∀ x, x ∈ out → x.1 < 2 ^ 20 := g2
  refine ⟨cl.length, fun k => (g3 cl k).1, fun k => (g3 cl k).2.1, fun k => (g3 cl k).2.2, m24, (txI_g (by omega)).trans v1, (txI_g (by omega)).trans m0, fun k hk => ?_, fun L hL => ?_⟩
  · obtain ⟨⟨a1, a2, a3⟩, a4, a5, a6⟩ := m3 k hk
    exact ⟨a1, Nat.lt_of_le_of_lt a2 (by decide), Nat.lt_of_le_of_lt a3 (by decide), (txI_g (by omega)).trans (v2 k hk), (txI_g (by omega)).trans a4, fun q => (txI_g (by omega)).trans (a5 q), fun q q2 => (txI_g (by omega)).trans (a6 q q2), fun _ => a2⟩
  · cases el : lw L with
    | none => exact Or.inl ⟨(txI_g (by omega)).trans ((v3 L hL).1 el), (g3' L hL).1 el⟩
    | some v =>
      obtain ⟨k, i, e, p, q⟩ := v
      obtain ⟨-, w1, w2⟩ := (v3 L hL).2 k i e p q el
      obtain ⟨-, x1, x2⟩ := m4 L hL k i e p q el
      obtain ⟨y1, y2, y3, c, y4, y5, y6, y7, y8, y9, den, y10⟩ := (g3' L hL).2 k i e p q el
      have y5 : e ≤ cs.length := y5
      have y7 : q ≤ out.length := y7
      refine Or.inr ⟨k, i, e, p, q, fun j => cs.getD j 0, fun j => (out.getD j (0, 0)).1, fun j => (out.getD j (0, 0)).2, den, y1, y2, y3, by omega, by omega, (txI_g (by omega)).trans w1, (txI_g (by omega)).trans w2, fun j hj => ⟨(txI_g (by omega)).trans (c1 j (by omega)), g1 _ (gd_mem (by omega))⟩, (txI_g (by omega)).trans x1, (txI_g (by omega)).trans x2, by omega, by omega, fun j hj => ⟨(txI_g (by omega)).trans (m1 j (by omega)).1, (txI_g (by omega)).trans (m1 j (by omega)).2, g2 _ (gd_mem (by omega))⟩, fun nm kp ok => ?_, fun nm kp ok => ?_⟩
      · obtain ⟨-, z1, -⟩ := y10 nm kp ok
        have := z1 (fun j => cs.getD j 0) e i [] y8 (by omega) (by decide)
        rw [← y4] at this
        exact this
      · obtain ⟨-, -, z2⟩ := y10 nm kp ok
        have := z2 (fun j => (out.getD j (0, 0)).1) (fun j => (out.getD j (0, 0)).2) p [] [] y9 (by decide) (by decide)
        rw [show c.2.length = q - p by omega] at this
        exact this
section TextP
variable {sc : Sc} {d : Nat}
theorem pr_text : PairI (Inv TXp) sc (d + 80) 113 219 [some (.ref 0), none] [some (.ref 89)] := by
  rintro I J T ⟨A, B, hC, hM, hW, hT, hX⟩
  have h14 := tw_texts hC.1
  have h90 := hM.1 2 (by decide)
  have a4 : A 2 ≤ 4 := hW.1.1.2.2.1
  by_cases c4 : A 2 = 4
  · rw [c4] at h14 h90
    have q1 : ∀ Q, Rn sc (d + 80) 113 0 [some (.ref 0), none] [] (K0, I, J, R1 T) Q = Q (some (.int (-1))) (K0, I, J, R1 T) := fun Q => by
      simp (disch := first | assumption | omega | decide) only [x113_0, x113_1, x113_2, x113_3, x113_4, x113_5, x113_6, x113_7, x113_8, x113_9, x113_10, x113_11, x113_15, x113_16, ↓reduceIte, Option.toList, List.nil_append, List.cons_append, nI_add, pk_mul, n_and, n_or, n_xor, nI_leI, nI_ltI, nI_eq, n_z, uI_s, uI_n, bI_n0, bI_n1, bT, bF, if_true, if_false, not_true, not_false_eq_true, pk_div, pk_rem, Nat.reduceEqDiff, Nat.reduceLeDiff, Nat.reduceLT, Nat.reduceAdd, Nat.reduceMul, Nat.reduceSub, Nat.not_lt_zero, Nat.zero_le, reduceCtorEq, ite_self, n_rem, and_self, and_true, true_and, and_false, false_and, h14]
    have q2 : ∀ Q, Rn sc (d + 80) 219 0 [some (.ref 89)] [] (K0, I, J, R1 T) Q = Q (some (.int (-1))) (K0, I, J, R1 T) := fun Q => by
      simp (disch := first | assumption | omega | decide) only [x219_0, x219_1, x219_2, x219_3, x219_4, x219_5, x219_6, x219_7, ↓reduceIte, Option.toList, List.nil_append, List.cons_append, nI_add, pk_mul, n_and, n_or, n_xor, nI_leI, nI_ltI, nI_eq, n_z, uI_s, uI_n, bI_n0, bI_n1, bT, bF, if_true, if_false, not_true, not_false_eq_true, pk_div, pk_rem, Nat.reduceEqDiff, Nat.reduceLeDiff, Nat.reduceLT, Nat.reduceAdd, Nat.reduceMul, Nat.reduceSub, Nat.not_lt_zero, Nat.zero_le, reduceCtorEq, ite_self, n_rem, and_self, and_true, true_and, and_false, false_and, h90]
    rw [q1]
    refine ⟨-1, rfl, I, J, T, rfl, ?_⟩
    rw [q2]
    exact ⟨rfl, I, J, T, rfl, A, B, hC, hM, hW, hT, hX⟩
  · obtain ⟨a, ea⟩ : ∃ a, a = A 2 := ⟨_, rfl⟩
    rw [← ea] at h14 h90 a4 c4
    have ha : a < 4 := by omega
    have hg : ¬ 4 ≤ a := by omega
    obtain ⟨⟨n, n3, e1, e4, eb⟩, -, -⟩ := hT
    have tp : TpC I (fun k => vN (I 68 k)) n := ⟨n3, e1, fun k hk => by
      obtain ⟨v, v1, v2, v3⟩ := eb k hk
      refine ⟨(nI_vN _).symm, ?_⟩
      show vN (I 68 k) < 256
      rw [v2, vN_nI (by omega)]
      exact v1⟩
    obtain ⟨b, ebb⟩ : ∃ b, b = fun k => vN (I 68 k) := ⟨_, rfl⟩
    rw [← ebb] at tp
    have e93 : ∀ k, k < n → I 93 k = nI (b k) := fun k hk => by
      obtain ⟨v, v1, v2, v3⟩ := eb k hk
      rw [v3, ← v2]
      exact (tp.2.2 k hk).1
    obtain ⟨I1, f1, i671, r1, q1⟩ := sp_into (sc := sc) (d := d) (J := J) ha tp
    have h14' : I1 1 14 = nI a := (f1 _ _ (by omega) (by omega)).trans h14
    have nf : ¬ (false = true) := by decide
    rcases er : rdT b n 25 sg0 0 with ⟨f, y⟩ | ⟨σ, pp⟩
    · rw [er] at r1 q1
      rw [bI_f (show ¬ (Sum.inl (f, y) : Sum (Nat × Nat) (Sg × Nat)).isRight = true from nf)] at q1
      obtain ⟨d2, d0, d7, d3⟩ := r1
      have qc : ∀ Q, Rn sc (d + 80) 113 0 [some (.ref 0), none] [] (K0, I, J, R1 T) Q = Q (some (.int (-1))) (K0, I1, J, R1 (some (47 + 5 * a))) := fun Q => by
        simp (disch := first | assumption | omega | decide) only [x113_0, x113_1, x113_2, x113_3, x113_4, x113_5, x113_6, x113_7, x113_8, x113_9, x113_10, x113_11, x113_12, x113_14, x113_15, x113_16, x113_13r (a1 := 47 + 5 * a), ↓reduceIte, Option.toList, List.nil_append, List.cons_append, nI_add, pk_mul, n_and, n_or, n_xor, nI_leI, nI_ltI, nI_eq, n_z, uI_s, uI_n, bI_n0, bI_n1, bT, bF, if_true, if_false, not_true, not_false_eq_true, pk_div, pk_rem, Nat.reduceEqDiff, Nat.reduceLeDiff, Nat.reduceLT, Nat.reduceAdd, Nat.reduceMul, Nat.reduceSub, Nat.not_lt_zero, Nat.zero_le, reduceCtorEq, ite_self, n_rem, and_self, and_true, true_and, and_false, false_and, h14, hg, vr_46 ha, q1]
      obtain ⟨I2, J2, r, f2, r2, q2⟩ := sp_text (sc := sc) (d := d + 67) (T := some (47 + 5 * a)) (J := J) (I := I1) (b := b) (n := n) ha ⟨n3, (f1 _ _ (by omega) (by omega)).trans e4, fun k hk => ⟨(f1 _ _ (by omega) (by omega)).trans (e93 k hk), (tp.2.2 k hk).2⟩⟩ ((f1 _ _ (by omega) (by omega)).trans h90)
      rw [er] at r2
      obtain ⟨z1, z2, z3, z4⟩ := r2
      rw [z4] at q2
      have f0 : ¬ f = 0 := by omega
      have h90' : I1 90 2 = nI a := (f1 _ _ (by omega) (by omega)).trans h90
      have z3' : uI I2 89 5 (nI f) 89 8 = nI y := by rw [uI_n (by omega)]; exact z3
      have qm : ∀ Q, Rn sc (d + 80) 219 0 [some (.ref 89)] [] (K0, I1, J, R1 (some (47 + 5 * a))) Q = Q (some (.int (-1))) (K0, uI (uI (uI I2 89 5 (nI f)) 89 6 (nI y)) 89 4 (nI 0), J2, R1 (some (47 + 5 * a))) := fun Q => by
        simp (disch := first | assumption | omega | decide) only [x219_0, x219_1, x219_2, x219_3, x219_4, x219_5, x219_6, x219_7, x219_8, x219_9, x219_10, x219_11, x219_12, x219_13, x219_14, x219_15, x219_16, x219_17, x219_18, x219_19, x219_20, x219_21, x219_22, x219_23, x219_24, x219_25, x219_26, x219_27, x219_28, ↓reduceIte, Option.toList, List.nil_append, List.cons_append, nI_add, pk_mul, n_and, n_or, n_xor, nI_leI, nI_ltI, nI_eq, n_z, uI_s, uI_n, bI_n0, bI_n1, bT, bF, if_true, if_false, not_true, not_false_eq_true, pk_div, pk_rem, Nat.reduceEqDiff, Nat.reduceLeDiff, Nat.reduceLT, Nat.reduceAdd, Nat.reduceMul, Nat.reduceSub, Nat.not_lt_zero, Nat.zero_le, reduceCtorEq, ite_self, n_rem, and_self, and_true, true_and, and_false, false_and, h90', c4, q2, f0, z3]
      rw [qc]
      refine ⟨-1, rfl, I1, J, _, rfl, ?_⟩
      rw [qm]
      obtain ⟨I3, eI3⟩ : ∃ X, X = uI (uI (uI I2 89 5 (nI f)) 89 6 (nI y)) 89 4 (nI 0) := ⟨_, rfl⟩
      rw [← eI3]
      have g3' : ∀ c k, (c ≠ 89 ∨ (k ≠ 4 ∧ k ≠ 5 ∧ k ≠ 6)) → I3 c k = I2 c k := fun c k hc => by rw [eI3, uI_n (by omega), uI_n (by omega), uI_n (by omega)]
      have fr : ∀ c k, (c ≠ 89 ∨ 19 < k) → (c ≠ 92 ∨ k < 681 * a ∨ 681 * a + 681 ≤ k) → c ≠ 94 → (c ≠ 67 ∨ k < 1 ∨ 8 < k) → (c < 47 + 5 * a ∨ 51 + 5 * a < c) → I3 c k = I c k := fun c k a1 a2 a3 a4 a5 => by rw [g3' c k (by omega), f2 c k (by omega) a2 a3, f1 c k a4 a5]
      have s67 : ∀ k, I3 67 k = I1 67 k := fun k => by rw [g3' _ _ (by omega), f2 _ _ (by omega) (by omega) (by omega)]
      refine ⟨rfl, I3, J2, _, rfl, A, B, CI_c hW hC (fun c k hc => fr c k (by omega) (by omega) (by omega) (by omega) (by omega)), MI_c hM (fun c k hc => fr c k (by omega) (by omega) (by omega) (by omega) (by omega)) (fr _ _ (by omega) (by omega) (by omega) (by omega) (by omega)), hW, ⟨⟨0, by decide, (s67 1).trans i671, by rw [eI3, uI_s], fun k hk => (by cases hk)⟩, ?_, ?_⟩, fun t ht => ?_⟩
      · rw [s67, d2, eI3, uI_n (by omega), uI_n (by omega), uI_s]
      · rw [s67, d3, eI3, uI_n (by omega), uI_s]
      · have tl : t < a := by omega
        exact TXp_c (hX t ht) (fun c k l1 l2 => by rw [txI_g (by omega), txI_g (by omega)]; exact fr c k (by omega) (by omega) (by omega) (by omega) (by omega)) (fun k l1 l2 => by rw [txI_g (by omega), txI_g (by omega)]; exact fr _ k (by omega) (by omega) (by omega) (by omega) (by omega))
    · rw [er] at r1 q1
      rw [bI_t (show (Sum.inr (σ, pp) : Sum (Nat × Nat) (Sg × Nat)).isRight = true from rfl)] at q1
      obtain ⟨cl, lw, cs, out⟩ := σ
      obtain ⟨d2, d3, dc, dl, d300⟩ := r1
      obtain ⟨I1', eI1⟩ : ∃ X, X = uI I1 1 14 (nI (a + 1)) := ⟨_, rfl⟩
      have g1 : ∀ c k, (c ≠ 1 ∨ k ≠ 14) → I1' c k = I1 c k := fun c k hc => by rw [eI1, uI_n (by omega)]
      have qc : ∀ Q, Rn sc (d + 80) 113 0 [some (.ref 0), none] [] (K0, I, J, R1 T) Q = Q (some (.int (nI a))) (K0, I1', J, R1 (some (47 + 5 * a))) := fun Q => by
        rw [eI1]
        simp (disch := first | assumption | omega | decide) only [x113_0, x113_1, x113_2, x113_3, x113_4, x113_5, x113_6, x113_7, x113_8, x113_9, x113_10, x113_11, x113_12, x113_14, x113_15, x113_16, x113_17, x113_18, x113_19, x113_20, x113_21, x113_22, x113_23, x113_24, x113_25, x113_13r (a1 := 47 + 5 * a), ↓reduceIte, Option.toList, List.nil_append, List.cons_append, nI_add, pk_mul, n_and, n_or, n_xor, nI_leI, nI_ltI, nI_eq, n_z, uI_s, uI_n, bI_n0, bI_n1, bT, bF, if_true, if_false, not_true, not_false_eq_true, pk_div, pk_rem, Nat.reduceEqDiff, Nat.reduceLeDiff, Nat.reduceLT, Nat.reduceAdd, Nat.reduceMul, Nat.reduceSub, Nat.not_lt_zero, Nat.zero_le, reduceCtorEq, ite_self, n_rem, and_self, and_true, true_and, and_false, false_and, h14, hg, vr_46 ha, q1, h14']
      have h90' : I1' 90 2 = nI a := ((g1 _ _ (by omega)).trans (f1 _ _ (by omega) (by omega))).trans h90
      obtain ⟨I2, J2, r, f2, r2, q2⟩ := sp_text (sc := sc) (d := d + 67) (T := some (47 + 5 * a)) (J := J) (I := I1') (b := b) (n := n) ha ⟨n3, ((g1 _ _ (by omega)).trans (f1 _ _ (by omega) (by omega))).trans e4, fun k hk => ⟨((g1 _ _ (by omega)).trans (f1 _ _ (by omega) (by omega))).trans (e93 k hk), (tp.2.2 k hk).2⟩⟩ h90'
      rw [er] at r2
      obtain ⟨z1, z2, z3, z5, z4⟩ := r2
      have z1 : OtM I2 (681 * a) out := z1
      have z2 : out.length ≤ 300 := z2
      have z3 : ClM I2 (681 * a) cl lw := z3
      have dc : CdC I1 a cs := dc
      have dl : ClC I1 a cl lw := dl
      have d300 : cs.length ≤ 300 := d300
      rw [z4] at q2
      have h902 : I2 90 2 = nI a := (f2 _ _ (by omega) (by omega) (by omega)).trans h90'
      have qm : ∀ Q, Rn sc (d + 80) 219 0 [some (.ref 89)] [] (K0, I1', J, R1 (some (47 + 5 * a))) Q = Q (some (.int (nI a))) (K0, uI (uI (uI (uI I2 89 5 (nI 0)) 89 6 (-1)) 89 4 (nI 0)) 90 2 (nI (a + 1)), J2, R1 (some (47 + 5 * a))) := fun Q => by
        have es : nI (a + 1) - nI 1 = nI a := by rw [n_sub (by omega), Nat.add_sub_cancel]
        simp (disch := first | assumption | omega | decide) only [x219_0, x219_1, x219_2, x219_3, x219_4, x219_5, x219_6, x219_7, x219_8, x219_9, x219_10, x219_11, x219_12, x219_13, x219_14, x219_15, x219_16, x219_17, x219_18, x219_19, x219_20, x219_21, x219_22, x219_23, x219_24, x219_25, x219_26, x219_27, x219_28, x219_29, x219_30, x219_31, x219_32, x219_33, x219_34, x219_35, x219_36, x219_37, x219_38, x219_39, x219_40, x219_41, x219_42, x219_43, ↓reduceIte, Option.toList, List.nil_append, List.cons_append, nI_add, pk_mul, n_and, n_or, n_xor, nI_leI, nI_ltI, nI_eq, n_z, uI_s, uI_n, bI_n0, bI_n1, bT, bF, if_true, if_false, not_true, not_false_eq_true, pk_div, pk_rem, Nat.reduceEqDiff, Nat.reduceLeDiff, Nat.reduceLT, Nat.reduceAdd, Nat.reduceMul, Nat.reduceSub, Nat.not_lt_zero, Nat.zero_le, reduceCtorEq, ite_self, n_rem, and_self, and_true, true_and, and_false, false_and, h90', c4, q2, h902, es]
      rw [qc]
      refine ⟨nI a, rfl, I1', J, _, rfl, ?_⟩
      rw [qm]
      obtain ⟨I3, eI3⟩ : ∃ X, X = uI (uI (uI (uI I2 89 5 (nI 0)) 89 6 (-1)) 89 4 (nI 0)) 90 2 (nI (a + 1)) := ⟨_, rfl⟩
      rw [← eI3]
      have g3' : ∀ c k, (c ≠ 89 ∨ (k ≠ 4 ∧ k ≠ 5 ∧ k ≠ 6)) → (c ≠ 90 ∨ k ≠ 2) → I3 c k = I2 c k := fun c k hc hc2 => by rw [eI3, uI_n (by omega), uI_n (by omega), uI_n (by omega), uI_n (by omega)]
      have fr : ∀ c k, (c ≠ 89 ∨ 19 < k) → (c ≠ 92 ∨ k < 681 * a ∨ 681 * a + 681 ≤ k) → c ≠ 94 → (c ≠ 67 ∨ k < 1 ∨ 8 < k) → (c < 47 + 5 * a ∨ 51 + 5 * a < c) → (c ≠ 1 ∨ k ≠ 14) → (c ≠ 90 ∨ k ≠ 2) → I3 c k = I c k := fun c k a1 a2 a3 a4 a5 a6 a7 => by rw [g3' c k (by omega) a7, f2 c k (by omega) a2 a3, g1 c k a6, f1 c k a4 a5]
      have s3 : ∀ c k, 47 ≤ c → c ≤ 67 → I3 c k = I1 c k := fun c k l1 l2 => by rw [g3' _ _ (by omega) (by omega), f2 _ _ (by omega) (by omega) (by omega), g1 _ _ (by omega)]
      have s92 : ∀ k, I3 92 k = I2 92 k := fun k => g3' _ _ (by omega) (by omega)
      obtain ⟨A', eA⟩ : ∃ X, X = upA A 2 (a + 1) := ⟨_, rfl⟩
      have fA : ∀ k, k ≠ 2 → A' k = A k := fun k hk => by rw [eA, upA_n hk]
      have e2 : A' 2 = a + 1 := by rw [eA, upA_s]
      obtain ⟨wA, wB, wt⟩ := hW
      have w0 : A 0 ≤ 12 := wA.1.1
      have w1 : A 1 ≤ 4 := wA.1.2.1
      have f1' : A' 1 = A 1 := fA 1 (by omega)
      have W1 : Wf1 A' := by
        obtain ⟨u0, u1, u2, u3, u4, u5, u6, u7, u8, u9, u10, u11⟩ := wA.1
        unfold Wf1
        rw [fA 0 (by decide), fA 1 (by decide), e2, fA 3 (by decide), fA 4 (by decide), fA 5 (by decide), fA 6 (by decide), fA 7 (by decide), fA 8 (by decide), fA 9 (by decide), fA 10 (by decide), fA 11 (by decide)]
        exact ⟨u0, u1, by omega, by omega, u4, u5, u6, u7, u8, u9, u10, u11⟩
      have w' : WW A' B := ⟨⟨W1, (Wf2_c (fun k hk => fA k (by omega)) wA.2.1), (Wf3_c (fun k hk => fA k (by omega)) wA.1.1 wA.2.2.1), (Wf4_c (fun k hk => fA k (by omega)) wA.1 wA.2.2.2.1), (Wf5_c (fun k hk => fA k (by omega)) wA.1.2.2.2.2.1 wA.2.2.2.2)⟩, wB, by omega⟩
      have cI : CI I3 A' B := by
        obtain ⟨t1, t2, s1, s2, n1, n2⟩ := hC
        have fI : ∀ c k, ((c ≠ 1 ∨ k ≠ 14) ∧ c ≤ 45) → I3 c k = I c k := fun c k hc => fr c k (by omega) (by omega) (by omega) (by omega) (by omega) hc.1 (by omega)
        have f1 := f1'
        refine ⟨⟨(fun h hh => by rw [fI _ _ (by omega), fA _ (by omega)]; exact tw_rooms t1 hh), (fun h hh => by rw [fI _ _ (by omega), fA _ (by omega)]; exact tw_income t1 hh), (fun h hh => by rw [fI _ _ (by omega), bes_c (fun k hk => fA k (by omega)) w0]; exact tw_beside t1 hh), (fun r hr => by rw [f1] at hr; rw [fI _ _ (by omega), fA _ (by omega)]; exact tw_truth t1 hr), (fun r hr => by rw [f1] at hr; rw [fI _ _ (by omega), fA _ (by omega)]; exact tw_purse t1 hr), (fun r hr => by rw [f1] at hr; rw [fI _ _ (by omega), fA _ (by omega)]; exact tw_told t1 hr), (fun r hr => by rw [f1] at hr; rw [fI _ _ (by omega), kpr_c (fun h hh => fA _ (by omega))]; exact tw_keepers t1 hr), (fun h hh => by rw [fI _ _ (by omega), fA _ (by omega)]; exact tw_pages t1 hh), (by rw [fI _ _ (by omega), fA _ (by omega)]; exact tw_written t1), (by rw [fI _ _ (by omega), fA _ (by omega)]; exact tw_roads t1), (by rw [fI _ _ (by omega), fA _ (by omega)]; exact tw_rumours t1), (by rw [fI _ _ (by omega), fA _ (by omega)]; exact tw_day t1), (by rw [fI _ _ (by omega), fA _ (by omega)]; exact tw_x t1), (by rw [fI _ _ (by omega), fA _ (by omega)]; exact tw_paid t1), ?_, (by rw [fI _ _ (by omega), fA _ (by omega)]; exact tw_ruling t1)⟩, Twn_c t2 (fun c k hc => fI c k (by omega)) (fun _ _ _ _ => rfl) ⟨wB.1.1, wB.1.2.1⟩, Stw_c s1 (fun c k hc => fI c k (by omega)) (fA 4 (by omega)) (fun k h1 h2 => fA k (by omega)) wA, Stw_c s2 (fun c k hc => fI c k (by omega)) rfl (fun _ _ _ => rfl) wB, Nts_c n1 (fun c k hc => fI c k (by omega)) (fun k hk => fA k (by omega)) wA.1, Nts_c n2 (fun c k hc => fI c k (by omega)) (fun _ _ => rfl) wB.1⟩
        rw [g3' _ _ (by omega) (by omega), f2 _ _ (by omega) (by omega) (by omega), eI1, uI_s, e2]
      have mI : MI I3 A' B := by
        refine ⟨fun k hk => ?_, fun k hk => ?_, ?_⟩
        · by_cases c2 : k = 2
          · rw [c2, e2, eI3, uI_s]
          · rw [fA k c2, fr _ _ (by omega) (by omega) (by omega) (by omega) (by omega) (by omega) (by omega)]
            exact hM.1 k hk
        · rw [fr _ _ (by omega) (by omega) (by omega) (by omega) (by omega) (by omega) (by omega)]
          exact hM.2.1 k hk
        · rw [fr _ _ (by omega) (by omega) (by omega) (by omega) (by omega) (by omega) (by omega)]
          exact hM.2.2
      refine ⟨rfl, I3, J2, _, rfl, A', B, cI, mI, w', ⟨⟨0, by decide, (s3 _ _ (by omega) (by omega)).trans i671, by rw [eI3, uI_n (by omega), uI_s], fun k hk => (by cases hk)⟩, ?_, ?_⟩, fun t ht => ?_⟩
      · rw [s3 _ _ (by omega) (by omega), d2, eI3, uI_n (by omega), uI_n (by omega), uI_n (by omega), uI_s]
      · rw [s3 _ _ (by omega) (by omega), d3, eI3, uI_n (by omega), uI_n (by omega), uI_s]
      · rw [e2] at ht
        by_cases ct : t = a
        · rw [ct]
          refine tx_new ha (fun j hj => (s3 _ _ (by omega) (by omega)).trans (dc.2 j hj)) (ClC_c dl (s3 _ _ (by omega) (by omega)) (fun c k hc => s3 _ _ (by omega) (by omega))) d300 (fun j hj => ⟨(s92 _).trans (z1.2 j hj).1, (s92 _).trans (z1.2 j hj).2⟩) z2 ((s92 _).trans z3.1) z3.2.1 (fun k hk => ?_) (fun L hL k i e p q he => ?_) z5
          · obtain ⟨b0, b1, b2, b3⟩ := z3.2.2.2.1 k hk
            exact ⟨b0, (s92 _).trans b1, fun q => (s92 _).trans (b2 q), fun q q2 => (s92 _).trans (b3 q q2)⟩
          · obtain ⟨b0, b1, b2⟩ := z3.2.2.2.2 L hL k i e p q he
            exact ⟨b0, (s92 _).trans b1, (s92 _).trans b2⟩
        · have tl : t < a := by omega
          exact TXp_c (hX t (by omega)) (fun c k l1 l2 => by rw [txI_g (by omega), txI_g (by omega)]; exact fr c k (by omega) (by omega) (by omega) (by omega) (by omega) (by omega) (by omega)) (fun k l1 l2 => by rw [txI_g (by omega), txI_g (by omega)]; exact fr _ k (by omega) (by omega) (by omega) (by omega) (by omega) (by omega) (by omega))
end TextP
