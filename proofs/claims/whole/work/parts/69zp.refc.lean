/-! the reference's reading of sums: behind one; a whole sum -/
theorem bt_v {b : Nat → Nat} {n p o : Nat} {P : List Nat} (h : btwF b n P p = o) (h0 : o ≠ 0) : ((o = 6 ∨ o = 7 ∨ o = 8 ∨ o = 9) ∨ (10 ≤ o ∧ o ≤ 15 ∧ ¬ isCm P = true) ∨ o = 21 ∨ o = 22) ∧ tK b n p ≠ 42 := by
  unfold btwF at h
  by_cases c1 : tK b n p = 32
  · rw [if_pos c1] at h
    omega
  · rw [if_neg c1] at h
    by_cases c2 : tK b n p = 33
    · rw [if_pos c2] at h
      omega
    · rw [if_neg c2] at h
      by_cases c3 : tK b n p = 34
      · rw [if_pos c3] at h
        omega
      · rw [if_neg c3] at h
        by_cases c4 : tK b n p = 35
        · rw [if_pos c4] at h
          omega
        · rw [if_neg c4] at h
          by_cases c5 : opW P = 42
          · rw [if_neg (fun q => q c5)] at h
            by_cases c6 : isCm P = true
            · rw [if_neg (fun q => q c6)] at h
              by_cases c7 : tK b n p = 26
              · rw [if_pos c7] at h
                omega
              · rw [if_neg c7] at h
                by_cases c8 : tK b n p = 25
                · rw [if_pos c8] at h
                  omega
                · rw [if_neg c8] at h
                  omega
            · rw [if_pos c6] at h
              by_cases c7 : isCmp (tK b n p) = true
              · rw [if_pos c7] at h
                have c8 := of_decide_eq_true c7
                refine ⟨Or.inr (Or.inl ⟨?_, ?_, c6⟩), by omega⟩
                · unfold cmM at h
                  revert h
                  repeat' split
                  all_goals omega
                · unfold cmM at h
                  revert h
                  repeat' split
                  all_goals omega
              · rw [if_neg c7] at h
                omega
          · rw [if_pos c5] at h
            omega
theorem pr_v {b : Nat → Nat} {n p q : Nat} {P : List Nat} (h : prtF b n P p = q) (h0 : q ≠ 0) : (q = 1 ∨ q = 43 ∨ q = 44) ∧ opW P ≠ 0 ∧ tK b n p ≠ 42 := by
  unfold prtF at h
  by_cases c0 : opW P = 40
  · rw [if_pos c0] at h
    split at h <;> omega
  · rw [if_neg c0] at h
    by_cases c1 : opW P = 42
    · rw [if_pos c1] at h
      split at h <;> omega
    · rw [if_neg c1] at h
      by_cases c2 : opW P = 43
      · rw [if_pos c2] at h
        split at h <;> omega
      · rw [if_neg c2] at h
        by_cases c3 : opW P = 44
        · rw [if_pos c3] at h
          split at h <;> omega
        · rw [if_neg c3] at h
          omega
theorem rk_ar {o : Nat} (h : (o = 6 ∨ o = 7 ∨ o = 8 ∨ o = 9) ∨ (10 ≤ o ∧ o ≤ 15) ∨ o = 21 ∨ o = 22) : opq o = 0 ∧ 1 ≤ rk o ∧ rk o ≤ 6 ∧ (rk o = 4 ↔ 10 ≤ o ∧ o ≤ 15) := by
  have : o = 6 ∨ o = 7 ∨ o = 8 ∨ o = 9 ∨ o = 10 ∨ o = 11 ∨ o = 12 ∨ o = 13 ∨ o = 14 ∨ o = 15 ∨ o = 21 ∨ o = 22 := by omega
  rcases this with rfl | rfl | rfl | rfl | rfl | rfl | rfl | rfl | rfl | rfl | rfl | rfl <;> decide
section RefC
variable {sc : Sc} {d : Nat} {T : Option Nat} {b : Nat → Nat} {n L x0 : Nat} {I : Nat → Nat → Int32} {J : Nat → Nat → Int64}
theorem sp_beh0 {P : List Nat} {out : List (Nat × Nat)} {p : Nat} (h : RsM I J b n L x0 (true, P, out, p)) (h1 : btwF b n P p = 0) (h2 : prtF b n P p = 0) : ∀ Q, Rn sc (d + 6) 210 0 [some (.ref 89), none, none, none] [] (K0, I, J, R1 T) Q = Q (some (.int (-1))) (K0, I, J, R1 T) := by
  obtain ⟨t, hp, k, hC, h18, h14, hw, h8, hl⟩ := h
  have hp : p ≤ n := hp
  have k : TkM I J b n p := k
  have hC : CoR I x0 P out := hC
  have hw : Wp P := hw
  have h8 : opsN P ≤ 8 := h8
  have hb : ∀ k, k < n → b k < 256 := fun k hk => (t.2.2 k hk).2
  intro Q
  have bw := sp_btw (sc := sc) (d := d + 1) (T := T) hp hb k hC hw h8
  have pr := sp_prt (sc := sc) (d := d + 1) (T := T) hp hb k hC hw h8
  have on := sp_openNow (sc := sc) (d := d + 4) (J := J) (T := T) hC hw h8
  rw [h1, show onI 0 = -1 from rfl] at bw
  rw [h2, show prV 0 = -1 from rfl] at pr
  simp (disch := first | assumption | omega | decide) only [x210_0, x210_1, x210_2, x210_3, x210_4, x210_34, x210_35, x210_36, x210_37, x210_38, x210_39, x210_40, x210_41, x210_42, x210_43, x210_44, ↓reduceIte, Option.toList, List.nil_append, List.cons_append, nI_add, pk_mul, n_and, n_or, n_xor, nI_leI, nI_ltI, nI_eq, n_z, uI_s, uI_n, bI_n0, bI_n1, bT, bF, if_true, if_false, not_true, not_false_eq_true, pk_div, pk_rem, Nat.reduceEqDiff, Nat.reduceLeDiff, Nat.reduceLT, Nat.reduceAdd, Nat.reduceMul, Nat.reduceSub, Nat.not_lt_zero, Nat.zero_le, reduceCtorEq, ite_self, n_rem, and_self, and_true, true_and, and_false, false_and, bw, hm1, on, pr, hm2]
theorem sp_beh {P : List Nat} {out : List (Nat × Nat)} {p : Nat} (hx : x0 ≤ 2043) (h : RsM I J b n L x0 (true, P, out, p)) (h0 : ¬ (btwF b n P p = 0 ∧ prtF b n P p = 0)) : ∃ I' J', FrR x0 I I' ∧ OcM I' J' b n L x0 (behF b n P out p) ∧ ∀ Q, Rn sc (d + 6) 210 0 [some (.ref 89), none, none, none] [] (K0, I, J, R1 T) Q = Q (some (.int (ocV (behF b n P out p)))) (K0, I', J', R1 T) := by
  obtain ⟨t, hp, k, hC, h18, h14, hw, h8, hl⟩ := h
  have hp : p ≤ n := hp
  have k : TkM I J b n p := k
  have hC : CoR I x0 P out := hC
  have hw : Wp P := hw
  have h8 : opsN P ≤ 8 := h8
  have hl : out.length + P.length ≤ tS b n p := hl
  have n3 := t.1
  have hb : ∀ k, k < n → b k < 256 := fun k hk => (t.2.2 k hk).2
  have sl := (tS_le (b := b) hp).2
  have bw := sp_btw (sc := sc) (d := d + 1) (T := T) hp hb k hC hw h8
  have pr := sp_prt (sc := sc) (d := d + 1) (T := T) hp hb k hC hw h8
  have on := sp_openNow (sc := sc) (d := d + 4) (J := J) (T := T) hC hw h8
  unfold behF
  obtain ⟨o, eo⟩ : ∃ o, o = btwF b n P p := ⟨_, rfl⟩
  obtain ⟨q, eq⟩ : ∃ q, q = prtF b n P p := ⟨_, rfl⟩
  rw [← eo] at bw h0 ⊢
  rw [← eq] at pr h0 ⊢
  by_cases c0 : o ≠ 0
  · rw [if_pos c0]
    obtain ⟨v1, v2⟩ := bt_v eo.symm c0
    obtain ⟨r1, r2, r3, r4⟩ := rk_ar (o := o) (by omega)
    obtain ⟨tk1, tk2⟩ := tk_st hp v2
    obtain ⟨κ, eκ⟩ : ∃ κ, κ = if rk o = 4 then 5 else rk o := ⟨_, rfl⟩
    have κ1 : 1 ≤ κ ∧ κ ≤ 7 := by
      rw [eκ]
      split <;> omega
    rw [← eκ]
    obtain ⟨I1, f1, c1, q1⟩ := sp_settle (sc := sc) (d := d + 4) (J := J) (T := T) κ1.1 κ1.2 hx P out I hC hw h8 (by omega)
    obtain ⟨w1, w2, w3⟩ := st_ops (k := κ) P out hw
    have shd := st_hd (k := κ) P out
    have scm : κ = 5 → isCm (stl κ P out).1 = isCm P := fun e => by rw [e]; exact st_cm P out
    obtain ⟨s, es⟩ : ∃ s, s = stl κ P out := ⟨_, rfl⟩
    rw [← es] at c1 w1 w2 w3 shd scm ⊢
    obtain ⟨P1, out1⟩ := s
    have c1 : CoR I1 x0 P1 out1 := c1
    have w1 : Wp P1 := w1
    have w2 : opsN P1 ≤ opsN P := w2
    have w3 : P1.length + out1.length = P.length + out.length := w3
    have shd : ∀ y R, P1 = y :: R → rk y < κ := shd
    have scm : κ = 5 → isCm P1 = isCm P := scm
    show ∃ I' J', FrR x0 I I' ∧ OcM I' J' b n L x0 (.inr (false, o :: P1, out1, tX b n p)) ∧ ∀ Q, Rn sc (d + 6) 210 0 [some (.ref 89), none, none, none] [] (K0, I, J, R1 T) Q = Q (some (.int (nI 0))) (K0, I', J', R1 T)
    have l62 := wp_62 w1 (by omega)
    obtain ⟨wp1, wp2⟩ := wp_push (o := o) w1 r1 (by omega) r2 (fun y R e => by
      have h1 := shd y R e
      by_cases c4 : rk o = 4
      · rw [if_pos c4] at eκ
        have h2 := scm eκ
        have hn : ¬ isCm P = true := by
          rcases v1 with v1 | v1 | v1
          · omega
          · exact v1.2.2
          · omega
        rw [e, isCm, if_neg (by omega)] at h2
        by_cases c5 : rk y = 4
        · rw [decide_eq_true c5] at h2
          exact absurd h2.symm hn
        · right
          omega
      · rw [if_neg c4] at eκ
        right
        omega)
    have h16 := c1.2.1
    have p160 : P1.length < 160 := by omega
    obtain ⟨I2, eI⟩ : ∃ X, X = uI (uI (uI I1 94 P1.length (nI o)) 89 16 (nI (P1.length + 1))) 89 18 (nI 0) := ⟨_, rfl⟩
    have g : ∀ c k, (c ≠ 89 ∨ (k ≠ 16 ∧ k ≠ 18)) → (c ≠ 94 ∨ k ≠ P1.length) → I2 c k = I1 c k := fun c k a1 a2 => by rw [eI, uI_n (by omega), uI_n (by omega), uI_n a2]
    have c2 : CoR I2 x0 (o :: P1) out1 := by
      obtain ⟨a1, a2, a3, a4, a5, a6⟩ := c1
      exact ⟨⟨by rw [eI, uI_n (by omega), uI_n (by omega), uI_s], PlL_c P1 (fun k hk => g _ _ (by omega) (by omega)) a1⟩, by rw [eI, uI_n (by omega), uI_s, List.length_cons], by rw [wp2, g _ _ (by omega) (by omega)]; exact a3, (g _ _ (by omega) (by omega)).trans a4, (g _ _ (by omega) (by omega)).trans a5, fun j hj => ⟨(g _ _ (by omega) (by omega)).trans (a6 j hj).1, (g _ _ (by omega) (by omega)).trans (a6 j hj).2⟩⟩
    have t2 : TpM I2 b n := TpM_r t (fun k hk => (g _ _ (by omega) (by omega)).trans (f1 _ _ (by omega) (by omega))) (fun k => (g _ _ (by omega) (by omega)).trans (f1 _ _ (by omega) (by omega)))
    have k2 : TkM I2 J b n p := TkM_r k (fun k a1 a2 => (g _ _ (by omega) (by omega)).trans (f1 _ _ (by omega) (by omega)))
    obtain ⟨I3, J3, f3, t3, k3, q3⟩ := nxM (sc := sc) (d := d + 4) (T := T) t2 hp k2
    refine ⟨I3, J3, FrR_t (FrR_s f1) (FrR_t (fun c k a1 _ a3 => g c k (by omega) (by omega)) (FrR_k f3)), mkR t3 tk1 k3 (CoR_k c2 f3) ?_ ?_ wp1 (by omega) (by rw [List.length_cons]; omega), fun Q => ?_⟩
    · rw [f3 _ _ (by omega), eI, uI_s]
      rfl
    · rw [f3 _ _ (by omega), g _ _ (by omega) (by omega), f1 _ _ (by omega) (by omega)]
      exact h14
    · have bo : onI o = nI o := if_neg c0
      have o64 : o < 64 := by omega
      have q3' := q3
      rw [eI] at q3'
      rw [bo] at bw
      by_cases c4 : rk o = 4
      · rw [if_pos c4] at eκ
        rw [eκ] at q1
        simp (disch := first | assumption | omega | decide) only [x210_0, x210_1, x210_2, x210_3, x210_4, x210_5, x210_6, x210_7, x210_8, x210_9, x210_10, x210_11, x210_12, x210_13, x210_14, x210_15, x210_16, x210_17, x210_18, x210_19, x210_20, x210_21, x210_22, x210_23, x210_24, x210_25, x210_26, x210_27, x210_28, x210_29, x210_30, x210_31, x210_32, x210_33, ↓reduceIte, Option.toList, List.nil_append, List.cons_append, nI_add, pk_mul, n_and, n_or, n_xor, nI_leI, nI_ltI, nI_eq, n_z, uI_s, uI_n, bI_n0, bI_n1, bT, bF, if_true, if_false, not_true, not_false_eq_true, pk_div, pk_rem, Nat.reduceEqDiff, Nat.reduceLeDiff, Nat.reduceLT, Nat.reduceAdd, Nat.reduceMul, Nat.reduceSub, Nat.not_lt_zero, Nat.zero_le, reduceCtorEq, ite_self, n_rem, and_self, and_true, true_and, and_false, false_and, bw, sp_rank, c4, q1, h16, q3']
      · rw [if_neg c4] at eκ
        rw [eκ] at q1
        simp (disch := first | assumption | omega | decide) only [x210_0, x210_1, x210_2, x210_3, x210_4, x210_5, x210_6, x210_7, x210_8, x210_9, x210_10, x210_11, x210_12, x210_13, x210_14, x210_15, x210_16, x210_17, x210_18, x210_19, x210_20, x210_21, x210_22, x210_23, x210_24, x210_25, x210_26, x210_27, x210_28, x210_29, x210_30, x210_31, x210_32, x210_33, ↓reduceIte, Option.toList, List.nil_append, List.cons_append, nI_add, pk_mul, n_and, n_or, n_xor, nI_leI, nI_ltI, nI_eq, n_z, uI_s, uI_n, bI_n0, bI_n1, bT, bF, if_true, if_false, not_true, not_false_eq_true, pk_div, pk_rem, Nat.reduceEqDiff, Nat.reduceLeDiff, Nat.reduceLT, Nat.reduceAdd, Nat.reduceMul, Nat.reduceSub, Nat.not_lt_zero, Nat.zero_le, reduceCtorEq, ite_self, n_rem, and_self, and_true, true_and, and_false, false_and, bw, sp_rank, c4, q1, h16, q3']
  · have o0 : o = 0 := by omega
    have q0 : q ≠ 0 := by omega
    obtain ⟨v1, v2, v3⟩ := pr_v eq.symm q0
    obtain ⟨tk1, tk2⟩ := tk_st hp v3
    have sl2 := (tS_le (b := b) tk1).2
    rw [if_neg c0]
    rw [o0, show onI 0 = -1 from rfl] at bw
    obtain ⟨I1, f1, c1, q1⟩ := sp_settle (sc := sc) (d := d + 4) (J := J) (T := T) (show 1 ≤ 1 by decide) (show 1 ≤ 7 by decide) hx P out I hC hw h8 (by omega)
    obtain ⟨w1, w2, w3⟩ := st_ops (k := 1) P out hw
    obtain ⟨P2, eP⟩ := st_o P out v2
    obtain ⟨s, es⟩ : ∃ s, s = stl 1 P out := ⟨_, rfl⟩
    rw [← es] at c1 w1 w2 w3 eP ⊢
    obtain ⟨P1, out1⟩ := s
    have eP : P1 = opW P :: P2 := eP
    subst eP
    have c1 : CoR I1 x0 (opW P :: P2) out1 := c1
    have w1 : Wp (opW P :: P2) := w1
    have w2 : opsN (opW P :: P2) ≤ opsN P := w2
    have w3 : (opW P :: P2).length + out1.length = P.length + out.length := w3
    rw [List.length_cons] at w3
    have l62 := wp_62 w1 (by omega)
    rw [List.length_cons] at l62
    have w40 := opW_40 v2
    have w64 := opW_lt hw
    have eops : opsN (opW P :: P2) = opsN P2 + 1 := by
      show opq (opW P) + opsN P2 = _
      unfold opq
      rw [if_pos (Or.inl w40)]
      omega
    have t1 : TpM I1 b n := TpM_r t (fun k hk => f1 _ _ (by omega) (by omega)) (fun k => f1 _ _ (by omega) (by omega))
    have k1 : TkM I1 J b n p := TkM_r k (fun k a1 a2 => f1 _ _ (by omega) (by omega))
    obtain ⟨I2, J2, f2, t2, k2, q2⟩ := nxM (sc := sc) (d := d + 4) (T := T) t1 hp k1
    have c2 := CoR_k c1 f2
    have h142 : I2 89 14 = nI L := (f2 _ _ (by omega)).trans ((f1 _ _ (by omega) (by omega)).trans h14)
    have h162 : I2 89 16 = nI (P2.length + 1) := c2.2.1
    have h172 : I2 89 17 = nI (opsN P2 + 1) := by rw [← eops]; exact c2.2.2.1
    have f12 : FrR x0 I I2 := FrR_t (FrR_s f1) (FrR_k f2)
    have bo : onI (opW P) = nI (opW P) := if_neg v2
    rw [bo] at on pr
    by_cases cq : q = 1
    · rw [if_pos cq]
      rw [cq, show prV 1 = nI 0 from rfl] at pr
      show ∃ I' J', FrR x0 I I' ∧ OcM I' J' b n L x0 (endF b n P2 (out1 ++ (if opW P = 44 then [(3, 0)] else [])) (tX b n p)) ∧ ∀ Q, Rn sc (d + 6) 210 0 [some (.ref 89), none, none, none] [] (K0, I, J, R1 T) Q = Q (some (.int (ocV (endF b n P2 (out1 ++ (if opW P = 44 then [(3, 0)] else [])) (tX b n p))))) (K0, I', J', R1 T)
      obtain ⟨I3, eI⟩ : ∃ X, X = uI (uI I2 89 17 (nI (opsN P2))) 89 16 (nI P2.length) := ⟨_, rfl⟩
      have g : ∀ c k, (c ≠ 89 ∨ (k ≠ 16 ∧ k ≠ 17)) → I3 c k = I2 c k := fun c k a1 => by rw [eI, uI_n (by omega), uI_n (by omega)]
      have c3 : CoR I3 x0 P2 out1 := by
        obtain ⟨a1, a2, a3, a4, a5, a6⟩ := c2
        exact ⟨PlL_c P2 (fun k hk => g _ _ (by omega)) a1.2, by rw [eI, uI_s], by rw [eI, uI_n (by omega), uI_s], (g _ _ (by omega)).trans a4, (g _ _ (by omega)).trans a5, fun j hj => ⟨(g _ _ (by omega)).trans (a6 j hj).1, (g _ _ (by omega)).trans (a6 j hj).2⟩⟩
      have t3 : TpM I3 b n := TpM_r t2 (fun k hk => g _ _ (by omega)) (fun k => g _ _ (by omega))
      have k3 : TkM I3 J2 b n (tX b n p) := TkM_r k2 (fun k a1 a2 => g _ _ (by omega))
      have h143 : I3 89 14 = nI L := (g _ _ (by omega)).trans h142
      have f13 : FrR x0 I I3 := FrR_t f12 (fun c k a1 _ _ => g c k (by omega))
      have st : ∀ Q, Rn sc (d + 6) 210 0 [some (.ref 89), none, none, none] [] (K0, I, J, R1 T) Q = Rn sc (d + 6) 210 64 [some (.ref 89), some (.int (-1)), some (.int (nI (opW P))), some (.int (nI 0))] [] (K0, I3, J2, R1 T) Q := fun Q => by
        rw [eI]
        simp (disch := first | assumption | omega | decide) only [x210_0, x210_1, x210_2, x210_3, x210_4, x210_34, x210_35, x210_36, x210_37, x210_38, x210_39, x210_40, x210_41, x210_42, x210_43, x210_44, x210_45, x210_46, x210_47, x210_48, x210_49, x210_50, x210_51, x210_52, x210_53, x210_54, x210_55, x210_56, x210_57, x210_58, x210_59, x210_60, x210_61, x210_62, x210_63, ↓reduceIte, Option.toList, List.nil_append, List.cons_append, nI_add, pk_mul, n_and, n_or, n_xor, nI_leI, nI_ltI, nI_eq, n_z, uI_s, uI_n, bI_n0, bI_n1, bT, bF, if_true, if_false, not_true, not_false_eq_true, pk_div, pk_rem, Nat.reduceEqDiff, Nat.reduceLeDiff, Nat.reduceLT, Nat.reduceAdd, Nat.reduceMul, Nat.reduceSub, Nat.not_lt_zero, Nat.zero_le, reduceCtorEq, ite_self, n_rem, and_self, and_true, true_and, and_false, false_and, bw, hm1, on, pr, q1, q2, h172, h162, n_sub (show 1 ≤ opsN P2 + 1 by omega), n_sub (show 1 ≤ P2.length + 1 by omega), Nat.add_sub_cancel]
      by_cases c44 : opW P = 44
      · obtain ⟨I4, f4, c4, q4⟩ := emM (sc := sc) (d := d + 5) (J := J2) (T := T) (o := 3) (v := 0) c3 hx (by omega)
        obtain ⟨I5, J5, f5, o5, q5⟩ := sp_endOne (sc := sc) (d := d) (T := T) (L := L) (J := J2) hx (TpM_r t3 (fun k hk => f4 _ _ (by omega) (by omega)) (fun k => f4 _ _ (by omega) (by omega))) tk1 (TkM_r k3 (fun k a1 a2 => f4 _ _ (by omega) (by omega))) c4 ((f4 _ _ (by omega) (by omega)).trans h143) w1.2.2 (by omega) (by rw [List.length_append, List.length_cons, List.length_nil]; omega)
        rw [if_pos c44]
        refine ⟨I5, J5, FrR_t f13 (FrR_t (FrR_s f4) f5), o5, fun Q => ?_⟩
        rw [st Q, c44]
        simp (disch := first | assumption | omega | decide) only [x210_64, x210_65, x210_66, x210_67, x210_68, x210_69, x210_70, x210_71, x210_72, x210_73, ↓reduceIte, Option.toList, List.nil_append, List.cons_append, nI_add, pk_mul, n_and, n_or, n_xor, nI_leI, nI_ltI, nI_eq, n_z, uI_s, uI_n, bI_n0, bI_n1, bT, bF, if_true, if_false, not_true, not_false_eq_true, pk_div, pk_rem, Nat.reduceEqDiff, Nat.reduceLeDiff, Nat.reduceLT, Nat.reduceAdd, Nat.reduceMul, Nat.reduceSub, Nat.not_lt_zero, Nat.zero_le, reduceCtorEq, ite_self, n_rem, and_self, and_true, true_and, and_false, false_and, q4, q5]
      · obtain ⟨I5, J5, f5, o5, q5⟩ := sp_endOne (sc := sc) (d := d) (T := T) (L := L) (J := J2) (out := out1) hx t3 tk1 k3 c3 h143 w1.2.2 (by omega) (by omega)
        rw [if_neg c44, List.append_nil]
        refine ⟨I5, J5, FrR_t f13 f5, o5, fun Q => ?_⟩
        rw [st Q]
        simp (disch := first | assumption | omega | decide) only [x210_64, x210_65, x210_66, x210_67, x210_68, x210_69, x210_70, x210_71, x210_72, x210_73, ↓reduceIte, Option.toList, List.nil_append, List.cons_append, nI_add, pk_mul, n_and, n_or, n_xor, nI_leI, nI_ltI, nI_eq, n_z, uI_s, uI_n, bI_n0, bI_n1, bT, bF, if_true, if_false, not_true, not_false_eq_true, pk_div, pk_rem, Nat.reduceEqDiff, Nat.reduceLeDiff, Nat.reduceLT, Nat.reduceAdd, Nat.reduceMul, Nat.reduceSub, Nat.not_lt_zero, Nat.zero_le, reduceCtorEq, ite_self, n_rem, and_self, and_true, true_and, and_false, false_and, c44, q5]
    · rw [if_neg cq]
      have q43 : q = 43 ∨ q = 44 := by omega
      have pq : prV q = nI q := by
        unfold prV
        rw [if_neg q0, if_neg cq]
      rw [pq] at pr
      show ∃ I' J', FrR x0 I I' ∧ OcM I' J' b n L x0 (.inr (false, q :: P2, out1, tX b n p)) ∧ ∀ Q, Rn sc (d + 6) 210 0 [some (.ref 89), none, none, none] [] (K0, I, J, R1 T) Q = Q (some (.int (nI 0))) (K0, I', J', R1 T)
      have oa := sp_openAt (sc := sc) (d := d + 5) (J := J2) (T := T) c2 w1 (by omega)
      have eoi : opI (opW P :: P2) = P2.length + 1 := if_pos w40
      rw [eoi, enB_s] at oa
      have p160 : P2.length < 160 := by omega
      obtain ⟨I3, eI⟩ : ∃ X, X = uI (uI I2 94 P2.length (nI q)) 89 18 (nI 0) := ⟨_, rfl⟩
      have g : ∀ c k, (c ≠ 89 ∨ k ≠ 18) → (c ≠ 94 ∨ k ≠ P2.length) → I3 c k = I2 c k := fun c k a1 a2 => by rw [eI, uI_n a1, uI_n a2]
      have eq2 : opq q = 1 := by
        unfold opq
        rw [if_pos (Or.inl (by omega))]
      have eops2 : opsN (q :: P2) = opsN P2 + 1 := by
        show opq q + opsN P2 = _
        omega
      have c3 : CoR I3 x0 (q :: P2) out1 := by
        obtain ⟨a1, a2, a3, a4, a5, a6⟩ := c2
        exact ⟨⟨by rw [eI, uI_n (by omega), uI_s], PlL_c P2 (fun k hk => g _ _ (by omega) (by omega)) a1.2⟩, (g _ _ (by omega) (by omega)).trans a2, by rw [eops2, g _ _ (by omega) (by omega)]; exact h172, (g _ _ (by omega) (by omega)).trans a4, (g _ _ (by omega) (by omega)).trans a5, fun j hj => ⟨(g _ _ (by omega) (by omega)).trans (a6 j hj).1, (g _ _ (by omega) (by omega)).trans (a6 j hj).2⟩⟩
      have wq : Wp (q :: P2) := by
        have h2 := w1.2.1
        have oq : opq (opW P) = 1 := by
          unfold opq
          rw [if_pos (Or.inl w40)]
        rw [if_pos oq, eops] at h2
        exact ⟨by omega, by rw [if_pos eq2, eops2]; exact h2, w1.2.2⟩
      refine ⟨I3, J2, FrR_t f12 (fun c k a1 _ a3 => g c k (by omega) (by omega)), mkR (TpM_r t2 (fun k hk => g _ _ (by omega) (by omega)) (fun k => g _ _ (by omega) (by omega))) tk1 (TkM_r k2 (fun k a1 a2 => g _ _ (by omega) (by omega))) c3 ?_ ?_ wq (by omega) (by rw [List.length_cons]; omega), fun Q => ?_⟩
      · rw [eI, uI_s]
        rfl
      · rw [g _ _ (by omega) (by omega)]
        exact h142
      · rw [eI]
        rcases q43 with e | e <;> (rw [e] at pr; rw [e]; simp (disch := first | assumption | omega | decide) only [x210_0, x210_1, x210_2, x210_3, x210_4, x210_34, x210_35, x210_36, x210_37, x210_38, x210_39, x210_40, x210_41, x210_42, x210_43, x210_44, x210_45, x210_46, x210_47, x210_48, x210_49, x210_50, x210_51, x210_74, x210_75, x210_76, x210_77, x210_78, x210_79, x210_80, x210_81, x210_82, x210_83, x210_84, ↓reduceIte, Option.toList, List.nil_append, List.cons_append, nI_add, pk_mul, n_and, n_or, n_xor, nI_leI, nI_ltI, nI_eq, n_z, uI_s, uI_n, bI_n0, bI_n1, bT, bF, if_true, if_false, not_true, not_false_eq_true, pk_div, pk_rem, Nat.reduceEqDiff, Nat.reduceLeDiff, Nat.reduceLT, Nat.reduceAdd, Nat.reduceMul, Nat.reduceSub, Nat.not_lt_zero, Nat.zero_le, reduceCtorEq, ite_self, n_rem, and_self, and_true, true_and, and_false, false_and, bw, hm1, on, pr, q1, q2, oa])
/-- at the end of a sum -/
def FiM (I : Nat → Nat → Int32) (J : Nat → Nat → Int64) (b : Nat → Nat) (n x0 : Nat) (v : Nat × Nat × List (Nat × Nat)) : Prop := (v.1 = 0 → TpM I b n ∧ v.2.1 ≤ n ∧ TkM I J b n v.2.1 ∧ OtM I x0 v.2.2 ∧ v.2.2.length ≤ tS b n v.2.1) ∧ (v.1 ≠ 0 → v.1 < 8 ∧ I 89 8 = nI v.2.1)
theorem sp_step {s : Rst} (hx : x0 ≤ 2043) (hL : L < 2) (h : RsM I J b n L x0 s) : match stpR b n L s with
    | .inl v => ∃ I' J', FrR x0 I I' ∧ FiM I' J' b n x0 v ∧ ∀ u Q, Rn sc (d + 8) 211 9 [some (.ref 89), u] [] (K0, I, J, R1 T) Q = Q (some (.int (nI v.1))) (K0, I', J', R1 T)
    | .inr s' => ∃ I' J', FrR x0 I I' ∧ RsM I' J' b n L x0 s' ∧ ∀ u Q, Rn sc (d + 8) 211 9 [some (.ref 89), u] [] (K0, I, J, R1 T) Q = Rn sc (d + 8) 211 9 [some (.ref 89), some (.int (nI 0))] [] (K0, I', J', R1 T) Q := by
  obtain ⟨wh, P, out, p⟩ := s
  have h18 : I 89 18 = nI (if wh = true then 1 else 0) := h.2.2.2.2.1
  -- what a call came to
  have fin : ∀ (oc : Oc) (I' : Nat → Nat → Int32) (J' : Nat → Nat → Int64), FrR x0 I I' → OcM I' J' b n L x0 oc → (∀ u Q, Rn sc (d + 8) 211 9 [some (.ref 89), u] [] (K0, I, J, R1 T) Q = Rn sc (d + 8) 211 17 [some (.ref 89), u] [.int (ocV oc)] (K0, I', J', R1 T) Q) → match oc with
    | .inl v => ∃ I' J', FrR x0 I I' ∧ FiM I' J' b n x0 v ∧ ∀ u Q, Rn sc (d + 8) 211 9 [some (.ref 89), u] [] (K0, I, J, R1 T) Q = Q (some (.int (nI v.1))) (K0, I', J', R1 T)
    | .inr s' => ∃ I' J', FrR x0 I I' ∧ RsM I' J' b n L x0 s' ∧ ∀ u Q, Rn sc (d + 8) 211 9 [some (.ref 89), u] [] (K0, I, J, R1 T) Q = Rn sc (d + 8) 211 9 [some (.ref 89), some (.int (nI 0))] [] (K0, I', J', R1 T) Q := by
    intro oc I' J' f o q
    cases oc with
    | inl v =>
      obtain ⟨f', x, w⟩ := v
      obtain ⟨o1, o2, o3⟩ := o
      have f0 : ¬ f' ≤ 0 := by omega
      refine ⟨I', J', f, ⟨fun e => ?_, fun _ => ⟨o2, o3⟩⟩, fun u Q => ?_⟩
      · have e : f' = 0 := e
        omega
      · rw [q u Q]
        have ov : ocV (.inl (f', x, w)) = nI f' := rfl
        rw [ov]
        simp (disch := first | assumption | omega | decide) only [x211_17, x211_18, x211_19, x211_20, x211_21, ↓reduceIte, Option.toList, List.nil_append, List.cons_append, nI_add, pk_mul, n_and, n_or, n_xor, nI_leI, nI_ltI, nI_eq, n_z, uI_s, uI_n, bI_n0, bI_n1, bT, bF, if_true, if_false, not_true, not_false_eq_true, pk_div, pk_rem, Nat.reduceEqDiff, Nat.reduceLeDiff, Nat.reduceLT, Nat.reduceAdd, Nat.reduceMul, Nat.reduceSub, Nat.not_lt_zero, Nat.zero_le, reduceCtorEq, ite_self, n_rem, and_self, and_true, true_and, and_false, false_and, f0]
    | inr s' =>
      refine ⟨I', J', f, o, fun u Q => ?_⟩
      rw [q u Q]
      have ov : ocV (.inr s') = nI 0 := rfl
      rw [ov]
      simp (disch := first | assumption | omega | decide) only [x211_17, x211_18, x211_19, x211_20, x211_21, x211_22, x211_23, x211_24, ↓reduceIte, Option.toList, List.nil_append, List.cons_append, nI_add, pk_mul, n_and, n_or, n_xor, nI_leI, nI_ltI, nI_eq, n_z, uI_s, uI_n, bI_n0, bI_n1, bT, bF, if_true, if_false, not_true, not_false_eq_true, pk_div, pk_rem, Nat.reduceEqDiff, Nat.reduceLeDiff, Nat.reduceLT, Nat.reduceAdd, Nat.reduceMul, Nat.reduceSub, Nat.not_lt_zero, Nat.zero_le, reduceCtorEq, ite_self, n_rem, and_self, and_true, true_and, and_false, false_and, Nat.le_refl]
  cases wh with
  | false =>
    obtain ⟨I1, J1, f1, o1, q1⟩ := sp_begin (sc := sc) (d := d + 1) (T := T) hx hL h
    have h18 : I 89 18 = nI 0 := h18
    have es : stpR b n L (false, P, out, p) = begF b n L P out p := rfl
    rw [es]
    refine fin _ I1 J1 f1 o1 (fun u Q => ?_)
    rw [x211_9]
    simp (disch := first | assumption | omega | decide) only [x211_10, x211_11, x211_12, x211_13, x211_14, x211_15, x211_16, ↓reduceIte, Option.toList, List.nil_append, List.cons_append, nI_add, pk_mul, n_and, n_or, n_xor, nI_leI, nI_ltI, nI_eq, n_z, uI_s, uI_n, bI_n0, bI_n1, bT, bF, if_true, if_false, not_true, not_false_eq_true, pk_div, pk_rem, Nat.reduceEqDiff, Nat.reduceLeDiff, Nat.reduceLT, Nat.reduceAdd, Nat.reduceMul, Nat.reduceSub, Nat.not_lt_zero, Nat.zero_le, reduceCtorEq, ite_self, n_rem, and_self, and_true, true_and, and_false, false_and, h18, q1]
  | true =>
    have h18 : I 89 18 = nI 1 := h18
    by_cases c : btwF b n P p = 0 ∧ prtF b n P p = 0
    · have q1 := sp_beh0 (sc := sc) (d := d + 1) (T := T) h c.1 c.2
      obtain ⟨t, hp, k, hC, -, h14, hw, h8, hl⟩ := h
      have hp : p ≤ n := hp
      have k : TkM I J b n p := k
      have hC : CoR I x0 P out := hC
      have hw : Wp P := hw
      have h8 : opsN P ≤ 8 := h8
      have hl : out.length + P.length ≤ tS b n p := hl
      have n3 := t.1
      have sl := (tS_le (b := b) hp).2
      have on := sp_openNow (sc := sc) (d := d + 6) (J := J) (T := T) hC hw h8
      have ol := opW_lt hw
      have st : ∀ u Q, Rn sc (d + 8) 211 9 [some (.ref 89), u] [] (K0, I, J, R1 T) Q = Rn sc (d + 8) 211 25 [some (.ref 89), some (.int (-1))] [] (K0, I, J, R1 T) Q := fun u Q => by
        rw [x211_9]
        simp (disch := first | assumption | omega | decide) only [x211_10, x211_11, x211_12, x211_13, x211_14, x211_15, x211_16, x211_17, x211_18, x211_19, x211_20, x211_21, x211_22, x211_23, ↓reduceIte, Option.toList, List.nil_append, List.cons_append, nI_add, pk_mul, n_and, n_or, n_xor, nI_leI, nI_ltI, nI_eq, n_z, uI_s, uI_n, bI_n0, bI_n1, bT, bF, if_true, if_false, not_true, not_false_eq_true, pk_div, pk_rem, Nat.reduceEqDiff, Nat.reduceLeDiff, Nat.reduceLT, Nat.reduceAdd, Nat.reduceMul, Nat.reduceSub, Nat.not_lt_zero, Nat.zero_le, reduceCtorEq, ite_self, n_rem, and_self, and_true, true_and, and_false, false_and, h18, q1, show ((-1 : Int32) ≤ nI 0) = True from eq_true (by decide), n_m1e']
      have es : stpR b n L (true, P, out, p) = if opW P = 0 then .inl (0, p, (stl 1 P out).2) else .inl (1, tS b n p, []) := if_pos c
      rw [es]
      by_cases c0 : opW P = 0
      · obtain ⟨I1, f1, c1, q1'⟩ := sp_settle (sc := sc) (d := d + 6) (J := J) (T := T) (show 1 ≤ 1 by decide) (show 1 ≤ 7 by decide) hx P out I hC hw h8 (by omega)
        obtain ⟨w1, w2, w3⟩ := st_ops (k := 1) P out hw
        rw [if_pos c0]
        refine ⟨I1, J, FrR_s f1, ⟨fun _ => ⟨TpM_r t (fun k hk => f1 _ _ (by omega) (by omega)) (fun k => f1 _ _ (by omega) (by omega)), hp, TkM_r k (fun k a1 a2 => f1 _ _ (by omega) (by omega)), c1.2.2.2.2, ?_⟩, fun e => absurd rfl e⟩, fun u Q => ?_⟩
        · show (stl 1 P out).2.length ≤ tS b n p
          omega
        · rw [st u Q]
          rw [c0, show onI 0 = -1 from rfl] at on
          simp (disch := first | assumption | omega | decide) only [x211_25, x211_26, x211_27, x211_28, x211_29, x211_30, x211_31, x211_32, x211_33, x211_34, ↓reduceIte, Option.toList, List.nil_append, List.cons_append, nI_add, pk_mul, n_and, n_or, n_xor, nI_leI, nI_ltI, nI_eq, n_z, uI_s, uI_n, bI_n0, bI_n1, bT, bF, if_true, if_false, not_true, not_false_eq_true, pk_div, pk_rem, Nat.reduceEqDiff, Nat.reduceLeDiff, Nat.reduceLT, Nat.reduceAdd, Nat.reduceMul, Nat.reduceSub, Nat.not_lt_zero, Nat.zero_le, reduceCtorEq, ite_self, n_rem, and_self, and_true, true_and, and_false, false_and, on, hm1, q1']
      · rw [if_neg c0]
        refine ⟨I, J, FrR_r, ⟨fun e => absurd e (show ¬ (1 : Nat) = 0 by decide), fun _ => ⟨(by decide : 1 < 8), k.2.1⟩⟩, fun u Q => ?_⟩
        rw [st u Q]
        have bo : onI (opW P) = nI (opW P) := if_neg c0
        rw [bo] at on
        simp (disch := first | assumption | omega | decide) only [x211_25, x211_26, x211_27, x211_28, x211_29, ↓reduceIte, Option.toList, List.nil_append, List.cons_append, nI_add, pk_mul, n_and, n_or, n_xor, nI_leI, nI_ltI, nI_eq, n_z, uI_s, uI_n, bI_n0, bI_n1, bT, bF, if_true, if_false, not_true, not_false_eq_true, pk_div, pk_rem, Nat.reduceEqDiff, Nat.reduceLeDiff, Nat.reduceLT, Nat.reduceAdd, Nat.reduceMul, Nat.reduceSub, Nat.not_lt_zero, Nat.zero_le, reduceCtorEq, ite_self, n_rem, and_self, and_true, true_and, and_false, false_and, on]
    · obtain ⟨I1, J1, f1, o1, q1⟩ := sp_beh (sc := sc) (d := d + 1) (T := T) hx h c
      have es : stpR b n L (true, P, out, p) = behF b n P out p := if_neg c
      rw [es]
      refine fin _ I1 J1 f1 o1 (fun u Q => ?_)
      rw [x211_9]
      simp (disch := first | assumption | omega | decide) only [x211_10, x211_11, x211_12, x211_13, x211_14, x211_15, x211_16, ↓reduceIte, Option.toList, List.nil_append, List.cons_append, nI_add, pk_mul, n_and, n_or, n_xor, nI_leI, nI_ltI, nI_eq, n_z, uI_s, uI_n, bI_n0, bI_n1, bT, bF, if_true, if_false, not_true, not_false_eq_true, pk_div, pk_rem, Nat.reduceEqDiff, Nat.reduceLeDiff, Nat.reduceLT, Nat.reduceAdd, Nat.reduceMul, Nat.reduceSub, Nat.not_lt_zero, Nat.zero_le, reduceCtorEq, ite_self, n_rem, and_self, and_true, true_and, and_false, false_and, h18, q1]
end RefC
