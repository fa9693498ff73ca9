/-! the reference's reading of sums: all of a step -/
theorem hm1 : ((-1 : Int32) < nI 0) = True := eq_true (by decide)
theorem hm2 : (nI 0 ≤ (-1 : Int32)) = False := eq_false (by decide)
theorem st_hd {k : Nat} : ∀ (P : List Nat) (out : List (Nat × Nat)) (y : Nat) (R : List Nat), (stl k P out).1 = y :: R → rk y < k
  | [], out, y, R, h => by cases h
  | x :: P, out, y, R, h => by
    rw [stl] at h
    by_cases c : k ≤ rk x
    · rw [if_pos c] at h
      exact st_hd P _ y R h
    · rw [if_neg c] at h
      have : x = y := (List.cons.inj h).1
      rw [← this]
      omega
theorem st_cm : ∀ (P : List Nat) (out : List (Nat × Nat)), isCm (stl 5 P out).1 = isCm P
  | [], _ => rfl
  | x :: P, out => by
    rw [stl]
    by_cases c : 5 ≤ rk x
    · rw [if_pos c, st_cm P, isCm, if_pos (by omega)]
    · rw [if_neg c]
theorem rk_0 {o : Nat} : rk o = 0 ↔ 40 ≤ o := by
  unfold rk
  by_cases c : 40 ≤ o
  · rw [if_pos c]
    exact ⟨fun _ => c, fun _ => rfl⟩
  · rw [if_neg c]
    refine ⟨fun h => ?_, fun h => absurd h c⟩
    exfalso
    revert h
    repeat' split
    all_goals omega
theorem st_o : ∀ (P : List Nat) (out : List (Nat × Nat)), opW P ≠ 0 → ∃ P2, (stl 1 P out).1 = opW P :: P2
  | [], _, h => absurd rfl h
  | x :: P, out, h => by
    rw [stl, opW]
    by_cases c : 40 ≤ x
    · have : rk x = 0 := rk_0.mpr c
      rw [if_neg (by omega), if_pos c]
      exact ⟨P, rfl⟩
    · have : rk x ≠ 0 := fun q => c (rk_0.mp q)
      rw [if_pos (by omega), if_neg c]
      exact st_o P _ (by rw [opW, if_neg c] at h; exact h)
theorem opW_40 : ∀ {P : List Nat}, opW P ≠ 0 → 40 ≤ opW P
  | [], h => absurd rfl h
  | x :: P, h => by
    rw [opW] at h ⊢
    by_cases c : 40 ≤ x
    · rw [if_pos c]
      exact c
    · rw [if_neg c] at h ⊢
      exact opW_40 h
theorem wp_push {P1 : List Nat} {o : Nat} (hw : Wp P1) (ho : opq o = 0) (h64 : o < 64) (hr : 1 ≤ rk o) (hd : ∀ y R, P1 = y :: R → opq y = 1 ∨ rk y < rk o) : Wp (o :: P1) ∧ opsN (o :: P1) = opsN P1 := by
  have e : opsN (o :: P1) = opsN P1 := by
    show opq o + opsN P1 = _
    omega
  refine ⟨⟨h64, ?_, hw⟩, e⟩
  rw [if_neg (by omega), e]
  cases P1 with
  | nil =>
    show 0 + 1 ≤ _
    omega
  | cons y R =>
    have h2 := hw.2.1
    rw [List.length_cons]
    rcases hd y R rfl with h | h
    · rw [if_pos h] at h2
      omega
    · split at h2 <;> omega
section RefB
variable {sc : Sc} {d : Nat} {T : Option Nat} {b : Nat → Nat} {n L x0 : Nat} {I : Nat → Nat → Int32} {J : Nat → Nat → Int64}
theorem tks {p s : Nat} (hb : ∀ k, k < n → b k < 256) (hs : s < 43) (h8 : 28 ≤ s) {c : Nat} (hc : sgT s = c) : (tT b n p = c) = (tK b n p = s) := by
  rw [← hc]
  exact propext (tk_s hb hs h8)
theorem kw_9 {K : Nat} (h : 7 ≤ K ∧ K ≤ 15) : kw K < 9 ∧ (kw K < 6 ↔ K ≤ 12) ∧ (kw K = 6 ↔ K = 13) := by
  have : K = 7 ∨ K = 8 ∨ K = 9 ∨ K = 10 ∨ K = 11 ∨ K = 12 ∨ K = 13 ∨ K = 14 ∨ K = 15 := by omega
  rcases this with rfl | rfl | rfl | rfl | rfl | rfl | rfl | rfl | rfl <;> decide
theorem sp_begin {P : List Nat} {out : List (Nat × Nat)} {p : Nat} (hx : x0 ≤ 2043) (hL : L < 2) (h : RsM I J b n L x0 (false, P, out, p)) : ∃ I' J', FrR x0 I I' ∧ OcM I' J' b n L x0 (begF b n L P out p) ∧ ∀ Q, Rn sc (d + 6) 205 0 [some (.ref 89), none] [] (K0, I, J, R1 T) Q = Q (some (.int (ocV (begF b n L P out p)))) (K0, I', J', R1 T) := by
  obtain ⟨t, hp, k, hC, h18, h14, hw, h8, hl⟩ := h
  have hp : p ≤ n := hp
  have k : TkM I J b n p := k
  have hC : CoR I x0 P out := hC
  have h18 : I 89 18 = nI 0 := h18
  have hw : Wp P := hw
  have h8 : opsN P ≤ 8 := h8
  have hl : out.length + P.length ≤ tS b n p := hl
  have n3 := t.1
  have hb : ∀ k, k < n → b k < 256 := fun k hk => (t.2.2 k hk).2
  have sl := (tS_le (b := b) hp).2
  have kl := tK_lt (b := b) (n := n) (p := p)
  have tl := tT_lt (p := p) hb
  have e1 := tks (p := p) hb (s := 41) (by decide) (by decide) (c := 1) rfl
  have e40 := tks (p := p) hb (s := 36) (by decide) (by decide) (c := 40) rfl
  have e45 := tks (p := p) hb (s := 33) (by decide) (by decide) (c := 45) rfl
  have k9 := k.2.2.1
  have nm := sp_nameOf (sc := sc) (d := d) (T := T) hp hb k
  -- what is written, the next token, the end of one
  have go : ∀ o v, v < 2 ^ 20 → tK b n p ≠ 42 → ∃ I' J', FrR x0 I I' ∧ OcM I' J' b n L x0 (endF b n P (out ++ [(o, v)]) (tX b n p)) ∧ ∀ l1 Q, Rn sc (d + 6) 205 43 [some (.ref 89), some (.int l1)] [.int (nI v), .int (nI o), .ref 89] (K0, I, J, R1 T) Q = Q (some (.int (ocV (endF b n P (out ++ [(o, v)]) (tX b n p))))) (K0, I', J', R1 T) := by
    intro o v hv hK
    obtain ⟨tk1, tk2⟩ := tk_st hp hK
    have sl2 := (tS_le (b := b) tk1).2
    obtain ⟨I1, f1, c1, q1⟩ := emM (sc := sc) (d := d + 5) (J := J) (T := T) (o := o) (v := v) hC hx (by omega)
    have t1 : TpM I1 b n := TpM_r t (fun k hk => f1 _ _ (by omega) (by omega)) (fun k => f1 _ _ (by omega) (by omega))
    have k1 : TkM I1 J b n p := TkM_r k (fun k a1 a2 => f1 _ _ (by omega) (by omega))
    obtain ⟨I2, J2, f2, t2, k2, q2⟩ := nxM (sc := sc) (d := d + 4) (T := T) t1 hp k1
    obtain ⟨I3, J3, f3, o3, q3⟩ := sp_endOne (sc := sc) (d := d) (T := T) (L := L) hx t2 tk1 k2 (CoR_k c1 f2) ((f2 _ _ (by omega)).trans ((f1 _ _ (by omega) (by omega)).trans h14)) hw h8 (by rw [List.length_append, List.length_cons, List.length_nil]; omega)
    refine ⟨I3, J3, FrR_t (FrR_s f1) (FrR_t (FrR_k f2) f3), o3, fun l1 Q => ?_⟩
    simp (disch := first | assumption | omega | decide) only [x205_43, x205_44, x205_45, x205_46, x205_47, x205_48, ↓reduceIte, Option.toList, List.nil_append, List.cons_append, nI_add, pk_mul, n_and, n_or, n_xor, nI_leI, nI_ltI, nI_eq, n_z, uI_s, uI_n, bI_n0, bI_n1, bT, bF, if_true, if_false, not_true, not_false_eq_true, pk_div, pk_rem, Nat.reduceEqDiff, Nat.reduceLeDiff, Nat.reduceLT, Nat.reduceAdd, Nat.reduceMul, Nat.reduceSub, Nat.not_lt_zero, Nat.zero_le, reduceCtorEq, ite_self, n_rem, and_self, and_true, true_and, and_false, false_and, q1, q2, q3]
  unfold begF
  by_cases c1 : tK b n p = 41
  · rw [if_pos c1]
    obtain ⟨x, x20, kx, ex⟩ := k.2.2.2.1 (e1.mpr c1)
    rw [if_neg (show ¬ (7 ≤ tK b n p ∧ tK b n p ≤ 15) by omega)] at nm
    by_cases c2 : tV b n p ≤ 9999
    · have x9 : x ≤ 9999 := by
        split at ex <;> omega
      have ev : x = tV b n p := by
        rw [if_neg (by omega)] at ex
        exact ex
      rw [ev] at kx x9
      obtain ⟨I3, J3, f3, o3, q3⟩ := go 0 (tV b n p) (by omega) (by omega)
      rw [if_pos c2]
      refine ⟨I3, J3, f3, o3, fun Q => ?_⟩
      simp (disch := first | assumption | omega | decide) only [x205_0, x205_1, x205_2, x205_3, x205_4, x205_5, x205_6, x205_7, x205_8, x205_9, x205_10, x205_11, x205_12, x205_13, x205_14, x205_15, x205_16, x205_17, x205_18, x205_19, x205_20, x205_21, x205_22, x205_23, x205_24, x205_25, x205_26, x205_27, x205_28, x205_29, x205_30, x205_31, x205_32, x205_33, x205_34, x205_35, x205_36, x205_37, x205_38, x205_39, x205_40, x205_41, x205_42, ↓reduceIte, Option.toList, List.nil_append, List.cons_append, nI_add, pk_mul, n_and, n_or, n_xor, nI_leI, nI_ltI, nI_eq, n_z, uI_s, uI_n, bI_n0, bI_n1, bT, bF, if_true, if_false, not_true, not_false_eq_true, pk_div, pk_rem, Nat.reduceEqDiff, Nat.reduceLeDiff, Nat.reduceLT, Nat.reduceAdd, Nat.reduceMul, Nat.reduceSub, Nat.not_lt_zero, Nat.zero_le, reduceCtorEq, ite_self, n_rem, and_self, and_true, true_and, and_false, false_and, k9, e1, c1, kx, x9, nm, hm1, q3]
    · have x9 : ¬ x ≤ 9999 := by
        split at ex <;> omega
      rw [if_neg c2]
      refine ⟨I, J, FrR_r, ⟨by decide, by decide, k.2.1⟩, fun Q => ?_⟩
      simp (disch := first | assumption | omega | decide) only [x205_0, x205_1, x205_2, x205_3, x205_4, x205_5, x205_6, x205_7, x205_8, x205_9, ↓reduceIte, Option.toList, List.nil_append, List.cons_append, nI_add, pk_mul, n_and, n_or, n_xor, nI_leI, nI_ltI, nI_eq, n_z, uI_s, uI_n, bI_n0, bI_n1, bT, bF, if_true, if_false, not_true, not_false_eq_true, pk_div, pk_rem, Nat.reduceEqDiff, Nat.reduceLeDiff, Nat.reduceLT, Nat.reduceAdd, Nat.reduceMul, Nat.reduceSub, Nat.not_lt_zero, Nat.zero_le, reduceCtorEq, ite_self, n_rem, and_self, and_true, true_and, and_false, false_and, k9, e1, c1, kx, x9, ocV]
  · rw [if_neg c1]
    by_cases c2 : 7 ≤ tK b n p ∧ tK b n p ≤ 15
    · rw [if_pos c2]
      rw [if_pos c2] at nm
      obtain ⟨w1, w2, w3⟩ := kw_9 c2
      have io := sp_isOf (sc := sc) (d := d + 5) (J := J) (T := T) w1 hL h14
      by_cases c3 : (L = 0 ∧ (tK b n p = 14 ∨ tK b n p = 15)) ∨ (L = 1 ∧ tK b n p = 13)
      · rw [if_pos c3]
        rw [bI_f (by omega)] at io
        refine ⟨I, J, FrR_r, ⟨by decide, by decide, k.2.1⟩, fun Q => ?_⟩
        simp (disch := first | assumption | omega | decide) only [x205_0, x205_1, x205_2, x205_3, x205_4, x205_5, x205_6, x205_7, x205_8, x205_9, x205_10, x205_11, x205_12, x205_13, x205_14, x205_15, x205_16, x205_17, x205_18, x205_19, x205_20, ↓reduceIte, Option.toList, List.nil_append, List.cons_append, nI_add, pk_mul, n_and, n_or, n_xor, nI_leI, nI_ltI, nI_eq, n_z, uI_s, uI_n, bI_n0, bI_n1, bT, bF, if_true, if_false, not_true, not_false_eq_true, pk_div, pk_rem, Nat.reduceEqDiff, Nat.reduceLeDiff, Nat.reduceLT, Nat.reduceAdd, Nat.reduceMul, Nat.reduceSub, Nat.not_lt_zero, Nat.zero_le, reduceCtorEq, ite_self, n_rem, and_self, and_true, true_and, and_false, false_and, k9, e1, c1, nm, io, ocV]
      · rw [if_neg c3]
        rw [bI_t (by omega)] at io
        obtain ⟨I3, J3, f3, o3, q3⟩ := go 1 (kw (tK b n p)) (by omega) (by omega)
        refine ⟨I3, J3, f3, o3, fun Q => ?_⟩
        simp (disch := first | assumption | omega | decide) only [x205_0, x205_1, x205_2, x205_3, x205_4, x205_5, x205_6, x205_7, x205_8, x205_9, x205_10, x205_11, x205_12, x205_13, x205_14, x205_15, x205_16, x205_17, x205_18, x205_19, x205_20, x205_21, x205_22, x205_23, x205_24, x205_25, x205_26, x205_27, x205_28, x205_29, x205_30, x205_31, x205_32, x205_33, x205_34, x205_35, x205_36, x205_37, x205_38, x205_39, x205_40, x205_41, x205_42, ↓reduceIte, Option.toList, List.nil_append, List.cons_append, nI_add, pk_mul, n_and, n_or, n_xor, nI_leI, nI_ltI, nI_eq, n_z, uI_s, uI_n, bI_n0, bI_n1, bT, bF, if_true, if_false, not_true, not_false_eq_true, pk_div, pk_rem, Nat.reduceEqDiff, Nat.reduceLeDiff, Nat.reduceLT, Nat.reduceAdd, Nat.reduceMul, Nat.reduceSub, Nat.not_lt_zero, Nat.zero_le, reduceCtorEq, ite_self, n_rem, and_self, and_true, true_and, and_false, false_and, k9, e1, c1, nm, io, q3]
    · rw [if_neg c2]
      rw [if_neg c2] at nm
      have st : ∀ Q, Rn sc (d + 6) 205 0 [some (.ref 89), none] [] (K0, I, J, R1 T) Q = Rn sc (d + 6) 205 49 [some (.ref 89), some (.int (-1))] [] (K0, I, J, R1 T) Q := fun Q => by
        simp (disch := first | assumption | omega | decide) only [x205_0, x205_1, x205_2, x205_3, x205_4, x205_5, x205_6, x205_7, x205_8, x205_9, x205_10, x205_11, x205_12, x205_13, x205_14, x205_15, x205_16, x205_17, x205_18, x205_19, x205_20, x205_21, x205_22, x205_23, x205_24, x205_25, x205_26, ↓reduceIte, Option.toList, List.nil_append, List.cons_append, nI_add, pk_mul, n_and, n_or, n_xor, nI_leI, nI_ltI, nI_eq, n_z, uI_s, uI_n, bI_n0, bI_n1, bT, bF, if_true, if_false, not_true, not_false_eq_true, pk_div, pk_rem, Nat.reduceEqDiff, Nat.reduceLeDiff, Nat.reduceLT, Nat.reduceAdd, Nat.reduceMul, Nat.reduceSub, Nat.not_lt_zero, Nat.zero_le, reduceCtorEq, ite_self, n_rem, and_self, and_true, true_and, and_false, false_and, k9, e1, c1, nm, hm1]
      have op := fun (o : Nat) (ho : opq o = 1) (h64 : o < 64) (hK : tK b n p ≠ 42) => sp_opened (sc := sc) (d := d + 3) (T := T) (L := L) ho h64 t hp k hK hC h14 h18 hw h8 hl
      have i19 := fun Q => iw_19 (sc := sc) (d := d + 5) (T := T) (Q := Q) hp hb k
      have i20 := fun Q => iw_20 (sc := sc) (d := d + 5) (T := T) (Q := Q) hp hb k
      have i21 := fun Q => iw_21 (sc := sc) (d := d + 5) (T := T) (Q := Q) hp hb k
      have i27 := fun Q => iw_27 (sc := sc) (d := d + 5) (T := T) (Q := Q) hp hb k
      by_cases c3 : tK b n p = 36
      · rw [if_pos c3]
        obtain ⟨I1, J1, f1, o1, q1⟩ := op 40 (by decide) (by decide) (by omega)
        refine ⟨I1, J1, f1, o1, fun Q => ?_⟩
        rw [st Q]
        simp (disch := first | assumption | omega | decide) only [x205_49, x205_50, x205_51, x205_52, x205_53, x205_54, x205_55, x205_56, ↓reduceIte, Option.toList, List.nil_append, List.cons_append, nI_add, pk_mul, n_and, n_or, n_xor, nI_leI, nI_ltI, nI_eq, n_z, uI_s, uI_n, bI_n0, bI_n1, bT, bF, if_true, if_false, not_true, not_false_eq_true, pk_div, pk_rem, Nat.reduceEqDiff, Nat.reduceLeDiff, Nat.reduceLT, Nat.reduceAdd, Nat.reduceMul, Nat.reduceSub, Nat.not_lt_zero, Nat.zero_le, reduceCtorEq, ite_self, n_rem, and_self, and_true, true_and, and_false, false_and, k9, e40, c3, q1]
      · rw [if_neg c3]
        by_cases c4 : tK b n p = 33
        · rw [if_pos c4]
          obtain ⟨I1, J1, f1, o1, q1⟩ := op 5 (by decide) (by decide) (by omega)
          refine ⟨I1, J1, f1, o1, fun Q => ?_⟩
          rw [st Q]
          simp (disch := first | assumption | omega | decide) only [x205_49, x205_50, x205_51, x205_52, x205_53, x205_54, x205_55, x205_56, x205_57, x205_58, x205_59, x205_60, x205_61, x205_62, x205_63, x205_64, ↓reduceIte, Option.toList, List.nil_append, List.cons_append, nI_add, pk_mul, n_and, n_or, n_xor, nI_leI, nI_ltI, nI_eq, n_z, uI_s, uI_n, bI_n0, bI_n1, bT, bF, if_true, if_false, not_true, not_false_eq_true, pk_div, pk_rem, Nat.reduceEqDiff, Nat.reduceLeDiff, Nat.reduceLT, Nat.reduceAdd, Nat.reduceMul, Nat.reduceSub, Nat.not_lt_zero, Nat.zero_le, reduceCtorEq, ite_self, n_rem, and_self, and_true, true_and, and_false, false_and, k9, e40, e45, c3, c4, q1]
        · rw [if_neg c4]
          have st2 : ∀ Q, Rn sc (d + 6) 205 0 [some (.ref 89), none] [] (K0, I, J, R1 T) Q = Rn sc (d + 6) 205 65 [some (.ref 89), some (.int (-1))] [] (K0, I, J, R1 T) Q := fun Q => by
            rw [st Q]
            simp (disch := first | assumption | omega | decide) only [x205_49, x205_50, x205_51, x205_52, x205_53, x205_54, x205_55, x205_56, x205_57, x205_58, x205_59, x205_60, ↓reduceIte, Option.toList, List.nil_append, List.cons_append, nI_add, pk_mul, n_and, n_or, n_xor, nI_leI, nI_ltI, nI_eq, n_z, uI_s, uI_n, bI_n0, bI_n1, bT, bF, if_true, if_false, not_true, not_false_eq_true, pk_div, pk_rem, Nat.reduceEqDiff, Nat.reduceLeDiff, Nat.reduceLT, Nat.reduceAdd, Nat.reduceMul, Nat.reduceSub, Nat.not_lt_zero, Nat.zero_le, reduceCtorEq, ite_self, n_rem, and_self, and_true, true_and, and_false, false_and, k9, e40, e45, c3, c4]
          by_cases c5 : tK b n p = 19
          · rw [if_pos c5]
            rw [bI_t c5] at i19
            obtain ⟨I1, J1, f1, o1, q1⟩ := op 41 (by decide) (by decide) (by omega)
            refine ⟨I1, J1, f1, o1, fun Q => ?_⟩
            rw [st2 Q]
            simp (disch := first | assumption | omega | decide) only [x205_65, x205_66, x205_67, x205_68, x205_69, x205_70, x205_71, x205_72, x205_73, x205_74, x205_75, x205_76, ↓reduceIte, Option.toList, List.nil_append, List.cons_append, nI_add, pk_mul, n_and, n_or, n_xor, nI_leI, nI_ltI, nI_eq, n_z, uI_s, uI_n, bI_n0, bI_n1, bT, bF, if_true, if_false, not_true, not_false_eq_true, pk_div, pk_rem, Nat.reduceEqDiff, Nat.reduceLeDiff, Nat.reduceLT, Nat.reduceAdd, Nat.reduceMul, Nat.reduceSub, Nat.not_lt_zero, Nat.zero_le, reduceCtorEq, ite_self, n_rem, and_self, and_true, true_and, and_false, false_and, sp_w4, i19, q1]
          · rw [if_neg c5]
            rw [bI_f c5] at i19
            by_cases c6 : tK b n p = 20
            · rw [if_pos c6]
              rw [bI_t c6] at i20
              obtain ⟨I1, J1, f1, o1, q1⟩ := op 2 (by decide) (by decide) (by omega)
              refine ⟨I1, J1, f1, o1, fun Q => ?_⟩
              rw [st2 Q]
              simp (disch := first | assumption | omega | decide) only [x205_65, x205_66, x205_67, x205_68, x205_69, x205_70, x205_71, x205_72, x205_73, x205_74, x205_75, x205_76, x205_77, x205_78, x205_79, x205_80, x205_81, x205_82, x205_83, x205_84, x205_85, x205_86, x205_87, x205_88, ↓reduceIte, Option.toList, List.nil_append, List.cons_append, nI_add, pk_mul, n_and, n_or, n_xor, nI_leI, nI_ltI, nI_eq, n_z, uI_s, uI_n, bI_n0, bI_n1, bT, bF, if_true, if_false, not_true, not_false_eq_true, pk_div, pk_rem, Nat.reduceEqDiff, Nat.reduceLeDiff, Nat.reduceLT, Nat.reduceAdd, Nat.reduceMul, Nat.reduceSub, Nat.not_lt_zero, Nat.zero_le, reduceCtorEq, ite_self, n_rem, and_self, and_true, true_and, and_false, false_and, sp_w4, i19, i20, q1]
            · rw [if_neg c6]
              rw [bI_f c6] at i20
              by_cases c7 : tK b n p = 21
              · rw [if_pos c7]
                rw [bI_t c7] at i21
                obtain ⟨I1, J1, f1, o1, q1⟩ := op 42 (by decide) (by decide) (by omega)
                refine ⟨I1, J1, f1, o1, fun Q => ?_⟩
                rw [st2 Q]
                simp (disch := first | assumption | omega | decide) only [x205_65, x205_66, x205_67, x205_68, x205_69, x205_70, x205_71, x205_72, x205_73, x205_74, x205_75, x205_76, x205_77, x205_78, x205_79, x205_80, x205_81, x205_82, x205_83, x205_84, x205_85, x205_86, x205_87, x205_88, x205_89, x205_90, x205_91, x205_92, x205_93, x205_94, x205_95, x205_96, x205_97, x205_98, ↓reduceIte, Option.toList, List.nil_append, List.cons_append, nI_add, pk_mul, n_and, n_or, n_xor, nI_leI, nI_ltI, nI_eq, n_z, uI_s, uI_n, bI_n0, bI_n1, bT, bF, if_true, if_false, not_true, not_false_eq_true, pk_div, pk_rem, Nat.reduceEqDiff, Nat.reduceLeDiff, Nat.reduceLT, Nat.reduceAdd, Nat.reduceMul, Nat.reduceSub, Nat.not_lt_zero, Nat.zero_le, reduceCtorEq, ite_self, n_rem, and_self, and_true, true_and, and_false, false_and, sp_w2, sp_w4, i19, i20, i21, q1]
              · rw [if_neg c7]
                rw [bI_f c7] at i21
                have aa := sp_askA (sc := sc) (d := d + 3) (J := J) (T := T) hC hw h8
                by_cases c8 : tK b n p = 27
                · rw [bI_t c8] at i27
                  by_cases c9 : askA P = true
                  · rw [if_pos ⟨c8, c9⟩]
                    rw [bI_t c9] at aa
                    obtain ⟨I1, J1, f1, o1, q1⟩ := op 20 (by decide) (by decide) (by omega)
                    refine ⟨I1, J1, f1, o1, fun Q => ?_⟩
                    rw [st2 Q]
                    simp (disch := first | assumption | omega | decide) only [x205_65, x205_66, x205_67, x205_68, x205_69, x205_70, x205_71, x205_72, x205_73, x205_74, x205_75, x205_76, x205_77, x205_78, x205_79, x205_80, x205_81, x205_82, x205_83, x205_84, x205_85, x205_86, x205_87, x205_88, x205_89, x205_90, x205_91, x205_92, x205_93, x205_94, x205_95, x205_96, x205_97, x205_98, x205_99, x205_100, x205_101, x205_102, x205_103, x205_104, x205_105, x205_106, x205_107, x205_108, x205_109, x205_110, x205_111, x205_112, x205_113, x205_114, ↓reduceIte, Option.toList, List.nil_append, List.cons_append, nI_add, pk_mul, n_and, n_or, n_xor, nI_leI, nI_ltI, nI_eq, n_z, uI_s, uI_n, bI_n0, bI_n1, bT, bF, if_true, if_false, not_true, not_false_eq_true, pk_div, pk_rem, Nat.reduceEqDiff, Nat.reduceLeDiff, Nat.reduceLT, Nat.reduceAdd, Nat.reduceMul, Nat.reduceSub, Nat.not_lt_zero, Nat.zero_le, reduceCtorEq, ite_self, n_rem, and_self, and_true, true_and, and_false, false_and, sp_w2, sp_w3, sp_w4, i19, i20, i21, i27, aa, q1]
                  · rw [if_neg (fun q => c9 q.2)]
                    rw [bI_f c9] at aa
                    refine ⟨I, J, FrR_r, ⟨by decide, by decide, k.2.1⟩, fun Q => ?_⟩
                    rw [st2 Q]
                    simp (disch := first | assumption | omega | decide) only [x205_65, x205_66, x205_67, x205_68, x205_69, x205_70, x205_71, x205_72, x205_73, x205_74, x205_75, x205_76, x205_77, x205_78, x205_79, x205_80, x205_81, x205_82, x205_83, x205_84, x205_85, x205_86, x205_87, x205_88, x205_89, x205_90, x205_91, x205_92, x205_93, x205_94, x205_95, x205_96, x205_97, x205_98, x205_99, x205_100, x205_101, x205_102, x205_103, x205_104, x205_105, x205_106, x205_107, x205_108, x205_109, x205_110, x205_111, x205_112, x205_113, x205_114, ↓reduceIte, Option.toList, List.nil_append, List.cons_append, nI_add, pk_mul, n_and, n_or, n_xor, nI_leI, nI_ltI, nI_eq, n_z, uI_s, uI_n, bI_n0, bI_n1, bT, bF, if_true, if_false, not_true, not_false_eq_true, pk_div, pk_rem, Nat.reduceEqDiff, Nat.reduceLeDiff, Nat.reduceLT, Nat.reduceAdd, Nat.reduceMul, Nat.reduceSub, Nat.not_lt_zero, Nat.zero_le, reduceCtorEq, ite_self, n_rem, and_self, and_true, true_and, and_false, false_and, sp_w2, sp_w3, sp_w4, i19, i20, i21, i27, aa, ocV]
                · rw [bI_f c8] at i27
                  rw [if_neg (fun q => c8 q.1)]
                  refine ⟨I, J, FrR_r, ⟨by decide, by decide, k.2.1⟩, fun Q => ?_⟩
                  rw [st2 Q]
                  simp (disch := first | assumption | omega | decide) only [x205_65, x205_66, x205_67, x205_68, x205_69, x205_70, x205_71, x205_72, x205_73, x205_74, x205_75, x205_76, x205_77, x205_78, x205_79, x205_80, x205_81, x205_82, x205_83, x205_84, x205_85, x205_86, x205_87, x205_88, x205_89, x205_90, x205_91, x205_92, x205_93, x205_94, x205_95, x205_96, x205_97, x205_98, x205_99, x205_100, x205_101, x205_102, x205_103, x205_104, x205_105, x205_106, x205_107, x205_108, x205_109, x205_110, x205_111, x205_112, x205_113, x205_114, ↓reduceIte, Option.toList, List.nil_append, List.cons_append, nI_add, pk_mul, n_and, n_or, n_xor, nI_leI, nI_ltI, nI_eq, n_z, uI_s, uI_n, bI_n0, bI_n1, bT, bF, if_true, if_false, not_true, not_false_eq_true, pk_div, pk_rem, Nat.reduceEqDiff, Nat.reduceLeDiff, Nat.reduceLT, Nat.reduceAdd, Nat.reduceMul, Nat.reduceSub, Nat.not_lt_zero, Nat.zero_le, reduceCtorEq, ite_self, n_rem, and_self, and_true, true_and, and_false, false_and, sp_w2, sp_w3, sp_w4, i19, i20, i21, i27, ocV]
theorem sp_cmpOf {p : Nat} (hb : ∀ k, k < n → b k < 256) (k : TkM I J b n p) : ∀ Q, Rn sc d 207 0 [some (.ref 89)] [] (K0, I, J, R1 T) Q = Q (some (.int (onI (if isCmp (tK b n p) = true then cmM (tK b n p) else 0)))) (K0, I, J, R1 T) := by
  intro Q
  have k9 := k.2.2.1
  have tl := tT_lt (p := p) hb
  have e60 := tks (p := p) hb (s := 28) (by decide) (by decide) (c := 60) rfl
  have e62 := tks (p := p) hb (s := 29) (by decide) (by decide) (c := 62) rfl
  have e61 := tks (p := p) hb (s := 30) (by decide) (by decide) (c := 61) rfl
  have e35 := tks (p := p) hb (s := 31) (by decide) (by decide) (c := 35) rfl
  have e4 := tks (p := p) hb (s := 39) (by decide) (by decide) (c := 4) rfl
  have e5 := tks (p := p) hb (s := 40) (by decide) (by decide) (c := 5) rfl
  by_cases c : isCmp (tK b n p) = true
  · have c' := of_decide_eq_true c
    rw [if_pos c]
    have : tK b n p = 28 ∨ tK b n p = 29 ∨ tK b n p = 30 ∨ tK b n p = 31 ∨ tK b n p = 39 ∨ tK b n p = 40 := by omega
    rcases this with e | e | e | e | e | e <;> (rw [e] at e60 e62 e61 e35 e4 e5; rw [e]; simp (disch := first | assumption | omega | decide) only [x207_0, x207_1, x207_2, x207_3, x207_4, x207_5, x207_6, x207_7, x207_8, x207_9, x207_10, x207_11, x207_12, x207_13, x207_14, x207_15, x207_16, x207_17, x207_18, x207_19, x207_20, x207_21, x207_22, x207_23, x207_24, x207_25, x207_26, x207_27, x207_28, x207_29, x207_30, x207_31, x207_32, x207_33, x207_34, x207_35, x207_36, x207_37, ↓reduceIte, Option.toList, List.nil_append, List.cons_append, nI_add, pk_mul, n_and, n_or, n_xor, nI_leI, nI_ltI, nI_eq, n_z, uI_s, uI_n, bI_n0, bI_n1, bT, bF, if_true, if_false, not_true, not_false_eq_true, pk_div, pk_rem, Nat.reduceEqDiff, Nat.reduceLeDiff, Nat.reduceLT, Nat.reduceAdd, Nat.reduceMul, Nat.reduceSub, Nat.not_lt_zero, Nat.zero_le, reduceCtorEq, ite_self, n_rem, and_self, and_true, true_and, and_false, false_and, k9, e60, e62, e61, e35, e4, e5]; rfl)
  · have c' : ¬ ((28 ≤ tK b n p ∧ tK b n p ≤ 31) ∨ tK b n p = 39 ∨ tK b n p = 40) := fun q => c (decide_eq_true q)
    have n1 : ¬ tK b n p = 28 := by omega
    have n2 : ¬ tK b n p = 29 := by omega
    have n3 : ¬ tK b n p = 30 := by omega
    have n4 : ¬ tK b n p = 31 := by omega
    have n5 : ¬ tK b n p = 39 := by omega
    have n6 : ¬ tK b n p = 40 := by omega
    rw [if_neg c]
    simp (disch := first | assumption | omega | decide) only [x207_0, x207_1, x207_2, x207_3, x207_4, x207_5, x207_6, x207_7, x207_8, x207_9, x207_10, x207_11, x207_12, x207_13, x207_14, x207_15, x207_16, x207_17, x207_18, x207_19, x207_20, x207_21, x207_22, x207_23, x207_24, x207_25, x207_26, x207_27, x207_28, x207_29, x207_30, x207_31, x207_32, x207_33, x207_34, x207_35, x207_36, x207_37, ↓reduceIte, Option.toList, List.nil_append, List.cons_append, nI_add, pk_mul, n_and, n_or, n_xor, nI_leI, nI_ltI, nI_eq, n_z, uI_s, uI_n, bI_n0, bI_n1, bT, bF, if_true, if_false, not_true, not_false_eq_true, pk_div, pk_rem, Nat.reduceEqDiff, Nat.reduceLeDiff, Nat.reduceLT, Nat.reduceAdd, Nat.reduceMul, Nat.reduceSub, Nat.not_lt_zero, Nat.zero_le, reduceCtorEq, ite_self, n_rem, and_self, and_true, true_and, and_false, false_and, k9, e60, e62, e61, e35, e4, e5, n1, n2, n3, n4, n5, n6]
    rfl
theorem on_42 {w : Nat} (hw : w < 64) : (onI w = nI 42) = (w = 42) := by
  apply propext
  unfold onI
  by_cases c : w = 0
  · rw [if_pos c]
    exact ⟨fun q => absurd q (by decide), fun q => by omega⟩
  · rw [if_neg c, nI_eq (by omega) (by omega)]
theorem sp_btw {P : List Nat} {out : List (Nat × Nat)} {p : Nat} (hp : p ≤ n) (hb : ∀ k, k < n → b k < 256) (k : TkM I J b n p) (hC : CoR I x0 P out) (hw : Wp P) (h8 : opsN P ≤ 8) : ∀ Q, Rn sc (d + 4) 208 0 [some (.ref 89)] [] (K0, I, J, R1 T) Q = Q (some (.int (onI (btwF b n P p)))) (K0, I, J, R1 T) := by
  intro Q
  have k9 := k.2.2.1
  have tl := tT_lt (p := p) hb
  have e43 := tks (p := p) hb (s := 32) (by decide) (by decide) (c := 43) rfl
  have e45 := tks (p := p) hb (s := 33) (by decide) (by decide) (c := 45) rfl
  have e42 := tks (p := p) hb (s := 34) (by decide) (by decide) (c := 42) rfl
  have e47 := tks (p := p) hb (s := 35) (by decide) (by decide) (c := 47) rfl
  have on := sp_openNow (sc := sc) (d := d + 2) (J := J) (T := T) hC hw h8
  have o42 := on_42 (opW_lt hw)
  have cm := sp_comp (sc := sc) (d := d + 2) (J := J) (T := T) hC hw h8
  have co := sp_cmpOf (sc := sc) (d := d + 3) (T := T) hb k
  have i26 := fun Q => iw_26 (sc := sc) (d := d + 3) (T := T) (Q := Q) hp hb k
  have i25 := fun Q => iw_25 (sc := sc) (d := d + 3) (T := T) (Q := Q) hp hb k
  unfold btwF
  by_cases c1 : tK b n p = 32
  · rw [if_pos c1]
    simp (disch := first | assumption | omega | decide) only [x208_0, x208_1, x208_2, x208_3, x208_4, x208_5, ↓reduceIte, Option.toList, List.nil_append, List.cons_append, nI_add, pk_mul, n_and, n_or, n_xor, nI_leI, nI_ltI, nI_eq, n_z, uI_s, uI_n, bI_n0, bI_n1, bT, bF, if_true, if_false, not_true, not_false_eq_true, pk_div, pk_rem, Nat.reduceEqDiff, Nat.reduceLeDiff, Nat.reduceLT, Nat.reduceAdd, Nat.reduceMul, Nat.reduceSub, Nat.not_lt_zero, Nat.zero_le, reduceCtorEq, ite_self, n_rem, and_self, and_true, true_and, and_false, false_and, k9, e43, c1]
    rfl
  · rw [if_neg c1]
    by_cases c2 : tK b n p = 33
    · rw [if_pos c2]
      simp (disch := first | assumption | omega | decide) only [x208_0, x208_1, x208_2, x208_3, x208_4, x208_5, x208_6, x208_7, x208_8, x208_9, x208_10, x208_11, ↓reduceIte, Option.toList, List.nil_append, List.cons_append, nI_add, pk_mul, n_and, n_or, n_xor, nI_leI, nI_ltI, nI_eq, n_z, uI_s, uI_n, bI_n0, bI_n1, bT, bF, if_true, if_false, not_true, not_false_eq_true, pk_div, pk_rem, Nat.reduceEqDiff, Nat.reduceLeDiff, Nat.reduceLT, Nat.reduceAdd, Nat.reduceMul, Nat.reduceSub, Nat.not_lt_zero, Nat.zero_le, reduceCtorEq, ite_self, n_rem, and_self, and_true, true_and, and_false, false_and, k9, e43, e45, c1, c2]
      rfl
    · rw [if_neg c2]
      by_cases c3 : tK b n p = 34
      · rw [if_pos c3]
        simp (disch := first | assumption | omega | decide) only [x208_0, x208_1, x208_2, x208_3, x208_4, x208_5, x208_6, x208_7, x208_8, x208_9, x208_10, x208_11, x208_12, x208_13, x208_14, x208_15, x208_16, x208_17, ↓reduceIte, Option.toList, List.nil_append, List.cons_append, nI_add, pk_mul, n_and, n_or, n_xor, nI_leI, nI_ltI, nI_eq, n_z, uI_s, uI_n, bI_n0, bI_n1, bT, bF, if_true, if_false, not_true, not_false_eq_true, pk_div, pk_rem, Nat.reduceEqDiff, Nat.reduceLeDiff, Nat.reduceLT, Nat.reduceAdd, Nat.reduceMul, Nat.reduceSub, Nat.not_lt_zero, Nat.zero_le, reduceCtorEq, ite_self, n_rem, and_self, and_true, true_and, and_false, false_and, k9, e43, e45, e42, c1, c2, c3]
        rfl
      · rw [if_neg c3]
        by_cases c4 : tK b n p = 35
        · rw [if_pos c4]
          simp (disch := first | assumption | omega | decide) only [x208_0, x208_1, x208_2, x208_3, x208_4, x208_5, x208_6, x208_7, x208_8, x208_9, x208_10, x208_11, x208_12, x208_13, x208_14, x208_15, x208_16, x208_17, x208_18, x208_19, x208_20, x208_21, x208_22, x208_23, ↓reduceIte, Option.toList, List.nil_append, List.cons_append, nI_add, pk_mul, n_and, n_or, n_xor, nI_leI, nI_ltI, nI_eq, n_z, uI_s, uI_n, bI_n0, bI_n1, bT, bF, if_true, if_false, not_true, not_false_eq_true, pk_div, pk_rem, Nat.reduceEqDiff, Nat.reduceLeDiff, Nat.reduceLT, Nat.reduceAdd, Nat.reduceMul, Nat.reduceSub, Nat.not_lt_zero, Nat.zero_le, reduceCtorEq, ite_self, n_rem, and_self, and_true, true_and, and_false, false_and, k9, e43, e45, e42, e47, c1, c2, c3, c4]
          rfl
        · rw [if_neg c4]
          by_cases c5 : opW P = 42
          · rw [if_neg (fun q => q c5)]
            by_cases c6 : isCm P = true
            · rw [if_neg (fun q => q c6)]
              rw [bI_t c6] at cm
              by_cases c7 : tK b n p = 26
              · rw [if_pos c7]
                rw [bI_t c7] at i26
                simp (disch := first | assumption | omega | decide) only [x208_0, x208_1, x208_2, x208_3, x208_4, x208_5, x208_6, x208_7, x208_8, x208_9, x208_10, x208_11, x208_12, x208_13, x208_14, x208_15, x208_16, x208_17, x208_18, x208_19, x208_20, x208_21, x208_22, x208_23, x208_24, x208_25, x208_26, x208_27, x208_28, x208_29, x208_30, x208_31, x208_32, x208_33, x208_34, x208_35, x208_36, x208_37, x208_38, x208_39, x208_40, x208_41, x208_42, x208_43, x208_44, x208_45, x208_46, x208_47, x208_48, x208_49, x208_50, x208_51, x208_52, x208_53, x208_54, ↓reduceIte, Option.toList, List.nil_append, List.cons_append, nI_add, pk_mul, n_and, n_or, n_xor, nI_leI, nI_ltI, nI_eq, n_z, uI_s, uI_n, bI_n0, bI_n1, bT, bF, if_true, if_false, not_true, not_false_eq_true, pk_div, pk_rem, Nat.reduceEqDiff, Nat.reduceLeDiff, Nat.reduceLT, Nat.reduceAdd, Nat.reduceMul, Nat.reduceSub, Nat.not_lt_zero, Nat.zero_le, reduceCtorEq, ite_self, n_rem, and_self, and_true, true_and, and_false, false_and, k9, e43, e45, e42, e47, c1, c2, c3, c4, on, o42, c5, cm, sp_w3, i26]
                rfl
              · rw [if_neg c7]
                rw [bI_f c7] at i26
                by_cases c9 : tK b n p = 25
                · rw [if_pos c9]
                  rw [bI_t c9] at i25
                  simp (disch := first | assumption | omega | decide) only [x208_0, x208_1, x208_2, x208_3, x208_4, x208_5, x208_6, x208_7, x208_8, x208_9, x208_10, x208_11, x208_12, x208_13, x208_14, x208_15, x208_16, x208_17, x208_18, x208_19, x208_20, x208_21, x208_22, x208_23, x208_24, x208_25, x208_26, x208_27, x208_28, x208_29, x208_30, x208_31, x208_32, x208_33, x208_34, x208_35, x208_36, x208_37, x208_38, x208_39, x208_40, x208_41, x208_42, x208_43, x208_44, x208_45, x208_46, x208_47, x208_48, x208_49, x208_50, x208_51, x208_52, x208_53, x208_54, ↓reduceIte, Option.toList, List.nil_append, List.cons_append, nI_add, pk_mul, n_and, n_or, n_xor, nI_leI, nI_ltI, nI_eq, n_z, uI_s, uI_n, bI_n0, bI_n1, bT, bF, if_true, if_false, not_true, not_false_eq_true, pk_div, pk_rem, Nat.reduceEqDiff, Nat.reduceLeDiff, Nat.reduceLT, Nat.reduceAdd, Nat.reduceMul, Nat.reduceSub, Nat.not_lt_zero, Nat.zero_le, reduceCtorEq, ite_self, n_rem, and_self, and_true, true_and, and_false, false_and, k9, e43, e45, e42, e47, c1, c2, c3, c4, on, o42, c5, cm, sp_w3, sp_w2, i26, i25]
                  rfl
                · rw [if_neg c9]
                  rw [bI_f c9] at i25
                  simp (disch := first | assumption | omega | decide) only [x208_0, x208_1, x208_2, x208_3, x208_4, x208_5, x208_6, x208_7, x208_8, x208_9, x208_10, x208_11, x208_12, x208_13, x208_14, x208_15, x208_16, x208_17, x208_18, x208_19, x208_20, x208_21, x208_22, x208_23, x208_24, x208_25, x208_26, x208_27, x208_28, x208_29, x208_30, x208_31, x208_32, x208_33, x208_34, x208_35, x208_36, x208_37, x208_38, x208_39, x208_40, x208_41, x208_42, x208_43, x208_44, x208_45, x208_46, x208_47, x208_48, x208_49, x208_50, x208_51, x208_52, x208_53, x208_54, ↓reduceIte, Option.toList, List.nil_append, List.cons_append, nI_add, pk_mul, n_and, n_or, n_xor, nI_leI, nI_ltI, nI_eq, n_z, uI_s, uI_n, bI_n0, bI_n1, bT, bF, if_true, if_false, not_true, not_false_eq_true, pk_div, pk_rem, Nat.reduceEqDiff, Nat.reduceLeDiff, Nat.reduceLT, Nat.reduceAdd, Nat.reduceMul, Nat.reduceSub, Nat.not_lt_zero, Nat.zero_le, reduceCtorEq, ite_self, n_rem, and_self, and_true, true_and, and_false, false_and, k9, e43, e45, e42, e47, c1, c2, c3, c4, on, o42, c5, cm, sp_w3, sp_w2, i26, i25]
                  rfl
            · rw [if_pos c6]
              rw [bI_f c6] at cm
              simp (disch := first | assumption | omega | decide) only [x208_0, x208_1, x208_2, x208_3, x208_4, x208_5, x208_6, x208_7, x208_8, x208_9, x208_10, x208_11, x208_12, x208_13, x208_14, x208_15, x208_16, x208_17, x208_18, x208_19, x208_20, x208_21, x208_22, x208_23, x208_24, x208_25, x208_26, x208_27, x208_28, x208_29, x208_30, x208_31, x208_32, x208_33, x208_34, x208_35, x208_36, x208_37, x208_38, x208_39, x208_40, x208_41, x208_42, x208_43, x208_44, x208_45, x208_46, x208_47, x208_48, x208_49, x208_50, x208_51, x208_52, x208_53, x208_54, ↓reduceIte, Option.toList, List.nil_append, List.cons_append, nI_add, pk_mul, n_and, n_or, n_xor, nI_leI, nI_ltI, nI_eq, n_z, uI_s, uI_n, bI_n0, bI_n1, bT, bF, if_true, if_false, not_true, not_false_eq_true, pk_div, pk_rem, Nat.reduceEqDiff, Nat.reduceLeDiff, Nat.reduceLT, Nat.reduceAdd, Nat.reduceMul, Nat.reduceSub, Nat.not_lt_zero, Nat.zero_le, reduceCtorEq, ite_self, n_rem, and_self, and_true, true_and, and_false, false_and, k9, e43, e45, e42, e47, c1, c2, c3, c4, on, c5, show (onI 42 = nI 42) = True from eq_true rfl, cm, co]
          · rw [if_pos c5]
            simp (disch := first | assumption | omega | decide) only [x208_0, x208_1, x208_2, x208_3, x208_4, x208_5, x208_6, x208_7, x208_8, x208_9, x208_10, x208_11, x208_12, x208_13, x208_14, x208_15, x208_16, x208_17, x208_18, x208_19, x208_20, x208_21, x208_22, x208_23, x208_24, x208_25, x208_26, x208_27, x208_28, x208_29, x208_30, x208_31, x208_32, x208_33, x208_34, x208_35, x208_36, x208_37, x208_38, x208_39, x208_40, x208_41, x208_42, x208_43, x208_44, x208_45, x208_46, x208_47, x208_48, x208_49, x208_50, x208_51, x208_52, x208_53, x208_54, ↓reduceIte, Option.toList, List.nil_append, List.cons_append, nI_add, pk_mul, n_and, n_or, n_xor, nI_leI, nI_ltI, nI_eq, n_z, uI_s, uI_n, bI_n0, bI_n1, bT, bF, if_true, if_false, not_true, not_false_eq_true, pk_div, pk_rem, Nat.reduceEqDiff, Nat.reduceLeDiff, Nat.reduceLT, Nat.reduceAdd, Nat.reduceMul, Nat.reduceSub, Nat.not_lt_zero, Nat.zero_le, reduceCtorEq, ite_self, n_rem, and_self, and_true, true_and, and_false, false_and, k9, e43, e45, e42, e47, c1, c2, c3, c4, on, o42, c5]
            rfl
def prV (q : Nat) : Int32 := if q = 0 then -1 else if q = 1 then nI 0 else nI q
theorem sp_prt {P : List Nat} {out : List (Nat × Nat)} {p : Nat} (hp : p ≤ n) (hb : ∀ k, k < n → b k < 256) (k : TkM I J b n p) (hC : CoR I x0 P out) (hw : Wp P) (h8 : opsN P ≤ 8) : ∀ Q, Rn sc (d + 4) 209 0 [some (.ref 89), some (.int (onI (opW P)))] [] (K0, I, J, R1 T) Q = Q (some (.int (prV (prtF b n P p)))) (K0, I, J, R1 T) := by
  intro Q
  have k9 := k.2.2.1
  have tl := tT_lt (p := p) hb
  have ol := opW_lt hw
  have e41 := tks (p := p) hb (s := 37) (by decide) (by decide) (c := 41) rfl
  have cm := sp_comp (sc := sc) (d := d + 2) (J := J) (T := T) hC hw h8
  have i22 := fun Q => iw_22 (sc := sc) (d := d + 3) (T := T) (Q := Q) hp hb k
  have i23 := fun Q => iw_23 (sc := sc) (d := d + 3) (T := T) (Q := Q) hp hb k
  have i24 := fun Q => iw_24 (sc := sc) (d := d + 3) (T := T) (Q := Q) hp hb k
  unfold prtF
  by_cases c0 : opW P = 40
  · have eo : onI (opW P) = nI 40 := by rw [c0]; rfl
    rw [if_pos c0, eo]
    by_cases c1 : tK b n p = 37
    · rw [if_pos c1]
      simp (disch := first | assumption | omega | decide) only [x209_0, x209_1_40, x209_2, x209_3, x209_4, x209_5, x209_6, x209_7, x209_8, x209_9, ↓reduceIte, Option.toList, List.nil_append, List.cons_append, nI_add, pk_mul, n_and, n_or, n_xor, nI_leI, nI_ltI, nI_eq, n_z, uI_s, uI_n, bI_n0, bI_n1, bT, bF, if_true, if_false, not_true, not_false_eq_true, pk_div, pk_rem, Nat.reduceEqDiff, Nat.reduceLeDiff, Nat.reduceLT, Nat.reduceAdd, Nat.reduceMul, Nat.reduceSub, Nat.not_lt_zero, Nat.zero_le, reduceCtorEq, ite_self, n_rem, and_self, and_true, true_and, and_false, false_and, k9, e41, c1]
      rfl
    · rw [if_neg c1]
      simp (disch := first | assumption | omega | decide) only [x209_0, x209_1_40, x209_2, x209_3, x209_4, x209_5, x209_6, x209_7, x209_8, x209_9, ↓reduceIte, Option.toList, List.nil_append, List.cons_append, nI_add, pk_mul, n_and, n_or, n_xor, nI_leI, nI_ltI, nI_eq, n_z, uI_s, uI_n, bI_n0, bI_n1, bT, bF, if_true, if_false, not_true, not_false_eq_true, pk_div, pk_rem, Nat.reduceEqDiff, Nat.reduceLeDiff, Nat.reduceLT, Nat.reduceAdd, Nat.reduceMul, Nat.reduceSub, Nat.not_lt_zero, Nat.zero_le, reduceCtorEq, ite_self, n_rem, and_self, and_true, true_and, and_false, false_and, k9, e41, c1]
      rfl
  · rw [if_neg c0]
    by_cases c1 : opW P = 42
    · have eo : onI (opW P) = nI 42 := by rw [c1]; rfl
      rw [if_pos c1, eo]
      by_cases c2 : tK b n p = 22
      · rw [bI_t c2] at i22
        by_cases c3 : isCm P = true
        · rw [bI_t c3] at cm
          rw [if_pos ⟨c2, c3⟩]
          simp (disch := first | assumption | omega | decide) only [x209_0, x209_1_42, x209_10, x209_11, x209_12, x209_13, x209_14, x209_15, x209_16, x209_17, x209_18, x209_19, x209_20, x209_21, x209_22, x209_23, x209_24, ↓reduceIte, Option.toList, List.nil_append, List.cons_append, nI_add, pk_mul, n_and, n_or, n_xor, nI_leI, nI_ltI, nI_eq, n_z, uI_s, uI_n, bI_n0, bI_n1, bT, bF, if_true, if_false, not_true, not_false_eq_true, pk_div, pk_rem, Nat.reduceEqDiff, Nat.reduceLeDiff, Nat.reduceLT, Nat.reduceAdd, Nat.reduceMul, Nat.reduceSub, Nat.not_lt_zero, Nat.zero_le, reduceCtorEq, ite_self, n_rem, and_self, and_true, true_and, and_false, false_and, sp_w4, i22, cm]
          rfl
        · rw [bI_f c3] at cm
          rw [if_neg (fun q => c3 q.2)]
          simp (disch := first | assumption | omega | decide) only [x209_0, x209_1_42, x209_10, x209_11, x209_12, x209_13, x209_14, x209_15, x209_16, x209_17, x209_18, x209_19, x209_20, x209_21, x209_22, x209_23, x209_24, ↓reduceIte, Option.toList, List.nil_append, List.cons_append, nI_add, pk_mul, n_and, n_or, n_xor, nI_leI, nI_ltI, nI_eq, n_z, uI_s, uI_n, bI_n0, bI_n1, bT, bF, if_true, if_false, not_true, not_false_eq_true, pk_div, pk_rem, Nat.reduceEqDiff, Nat.reduceLeDiff, Nat.reduceLT, Nat.reduceAdd, Nat.reduceMul, Nat.reduceSub, Nat.not_lt_zero, Nat.zero_le, reduceCtorEq, ite_self, n_rem, and_self, and_true, true_and, and_false, false_and, sp_w4, i22, cm]
          rfl
      · rw [bI_f c2] at i22
        rw [if_neg (fun q => c2 q.1)]
        simp (disch := first | assumption | omega | decide) only [x209_0, x209_1_42, x209_10, x209_11, x209_12, x209_13, x209_14, x209_15, x209_16, x209_17, x209_18, x209_19, x209_20, x209_21, x209_22, x209_23, x209_24, ↓reduceIte, Option.toList, List.nil_append, List.cons_append, nI_add, pk_mul, n_and, n_or, n_xor, nI_leI, nI_ltI, nI_eq, n_z, uI_s, uI_n, bI_n0, bI_n1, bT, bF, if_true, if_false, not_true, not_false_eq_true, pk_div, pk_rem, Nat.reduceEqDiff, Nat.reduceLeDiff, Nat.reduceLT, Nat.reduceAdd, Nat.reduceMul, Nat.reduceSub, Nat.not_lt_zero, Nat.zero_le, reduceCtorEq, ite_self, n_rem, and_self, and_true, true_and, and_false, false_and, sp_w4, i22]
        rfl
    · rw [if_neg c1]
      by_cases c2 : opW P = 43
      · have eo : onI (opW P) = nI 43 := by rw [c2]; rfl
        rw [if_pos c2, eo]
        by_cases c3 : tK b n p = 23
        · rw [bI_t c3] at i23
          rw [if_pos c3]
          simp (disch := first | assumption | omega | decide) only [x209_0, x209_1_43, x209_25, x209_26, x209_27, x209_28, x209_29, x209_30, x209_31, x209_32, x209_33, x209_34, x209_35, x209_36, ↓reduceIte, Option.toList, List.nil_append, List.cons_append, nI_add, pk_mul, n_and, n_or, n_xor, nI_leI, nI_ltI, nI_eq, n_z, uI_s, uI_n, bI_n0, bI_n1, bT, bF, if_true, if_false, not_true, not_false_eq_true, pk_div, pk_rem, Nat.reduceEqDiff, Nat.reduceLeDiff, Nat.reduceLT, Nat.reduceAdd, Nat.reduceMul, Nat.reduceSub, Nat.not_lt_zero, Nat.zero_le, reduceCtorEq, ite_self, n_rem, and_self, and_true, true_and, and_false, false_and, sp_w4, i23]
          rfl
        · rw [bI_f c3] at i23
          rw [if_neg c3]
          simp (disch := first | assumption | omega | decide) only [x209_0, x209_1_43, x209_25, x209_26, x209_27, x209_28, x209_29, x209_30, x209_31, x209_32, x209_33, x209_34, x209_35, x209_36, ↓reduceIte, Option.toList, List.nil_append, List.cons_append, nI_add, pk_mul, n_and, n_or, n_xor, nI_leI, nI_ltI, nI_eq, n_z, uI_s, uI_n, bI_n0, bI_n1, bT, bF, if_true, if_false, not_true, not_false_eq_true, pk_div, pk_rem, Nat.reduceEqDiff, Nat.reduceLeDiff, Nat.reduceLT, Nat.reduceAdd, Nat.reduceMul, Nat.reduceSub, Nat.not_lt_zero, Nat.zero_le, reduceCtorEq, ite_self, n_rem, and_self, and_true, true_and, and_false, false_and, sp_w4, i23]
          rfl
      · rw [if_neg c2]
        by_cases c3 : opW P = 44
        · have eo : onI (opW P) = nI 44 := by rw [c3]; rfl
          rw [if_pos c3, eo]
          by_cases c4 : tK b n p = 24
          · rw [bI_t c4] at i24
            rw [if_pos c4]
            simp (disch := first | assumption | omega | decide) only [x209_0, x209_1_44, x209_37, x209_38, x209_39, x209_40, x209_41, x209_42, x209_43, x209_44, x209_45, x209_46, x209_47, ↓reduceIte, Option.toList, List.nil_append, List.cons_append, nI_add, pk_mul, n_and, n_or, n_xor, nI_leI, nI_ltI, nI_eq, n_z, uI_s, uI_n, bI_n0, bI_n1, bT, bF, if_true, if_false, not_true, not_false_eq_true, pk_div, pk_rem, Nat.reduceEqDiff, Nat.reduceLeDiff, Nat.reduceLT, Nat.reduceAdd, Nat.reduceMul, Nat.reduceSub, Nat.not_lt_zero, Nat.zero_le, reduceCtorEq, ite_self, n_rem, and_self, and_true, true_and, and_false, false_and, sp_w3, i24]
            rfl
          · rw [bI_f c4] at i24
            rw [if_neg c4]
            simp (disch := first | assumption | omega | decide) only [x209_0, x209_1_44, x209_37, x209_38, x209_39, x209_40, x209_41, x209_42, x209_43, x209_44, x209_45, x209_46, x209_47, ↓reduceIte, Option.toList, List.nil_append, List.cons_append, nI_add, pk_mul, n_and, n_or, n_xor, nI_leI, nI_ltI, nI_eq, n_z, uI_s, uI_n, bI_n0, bI_n1, bT, bF, if_true, if_false, not_true, not_false_eq_true, pk_div, pk_rem, Nat.reduceEqDiff, Nat.reduceLeDiff, Nat.reduceLT, Nat.reduceAdd, Nat.reduceMul, Nat.reduceSub, Nat.not_lt_zero, Nat.zero_le, reduceCtorEq, ite_self, n_rem, and_self, and_true, true_and, and_false, false_and, sp_w3, i24]
            rfl
        · rw [if_neg c3]
          by_cases c4 : opW P = 41
          · have eo : onI (opW P) = nI 41 := by rw [c4]; rfl
            rw [eo]
            simp (disch := first | assumption | omega | decide) only [x209_0, x209_1_41, x209_48, x209_49, ↓reduceIte, Option.toList, List.nil_append, List.cons_append, nI_add, pk_mul, n_and, n_or, n_xor, nI_leI, nI_ltI, nI_eq, n_z, uI_s, uI_n, bI_n0, bI_n1, bT, bF, if_true, if_false, not_true, not_false_eq_true, pk_div, pk_rem, Nat.reduceEqDiff, Nat.reduceLeDiff, Nat.reduceLT, Nat.reduceAdd, Nat.reduceMul, Nat.reduceSub, Nat.not_lt_zero, Nat.zero_le, reduceCtorEq, ite_self, n_rem, and_self, and_true, true_and, and_false, false_and]
            rfl
          · have hx : (onI (opW P)).toInt < 40 ∨ 44 < (onI (opW P)).toInt := by
              unfold onI
              by_cases c5 : opW P = 0
              · rw [if_pos c5]
                left
                decide
              · have := opW_40 c5
                rw [if_neg c5, nI_toInt (by omega)]
                omega
            simp (disch := first | assumption | omega | decide) only [x209_0, x209_1_d hx, x209_48, x209_49, ↓reduceIte, Option.toList, List.nil_append, List.cons_append, nI_add, pk_mul, n_and, n_or, n_xor, nI_leI, nI_ltI, nI_eq, n_z, uI_s, uI_n, bI_n0, bI_n1, bT, bF, if_true, if_false, not_true, not_false_eq_true, pk_div, pk_rem, Nat.reduceEqDiff, Nat.reduceLeDiff, Nat.reduceLT, Nat.reduceAdd, Nat.reduceMul, Nat.reduceSub, Nat.not_lt_zero, Nat.zero_le, reduceCtorEq, ite_self, n_rem, and_self, and_true, true_and, and_false, false_and]
            rfl
end RefB
