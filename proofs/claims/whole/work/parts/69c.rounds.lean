/-! rounds -/
section Rounds
variable {sc : Sc} {d : Nat} {J : Nat → Nat → Int64} {T : Option Nat} {A : Nat → Nat}
theorem wk_C (w : Wf A) : ∀ (n k : Nat) (r : Nat → Nat) (I : Nat → Nat → Int32) (s : Nat × (Nat → Int32)), k + n = 8 → (∀ i, i < k → r i < 8) → BsC I A → (∀ i, i < k → I 77 i = nI (r i)) → I 72 6 = nI s.1 → (∀ i, i < 8 → I 78 i = s.2 i) → s.1 + 8 ^ n ≤ 2 ^ 30 → ∃ I', (∀ c j, c ≠ 77 ∧ c ≠ 78 ∧ (c ≠ 72 ∨ j ≠ 6) → I' c j = I c j) ∧ (∀ i, i < k → I' 77 i = nI (r i)) ∧ I' 72 6 = nI (btA 8 (okR A) n k r s).1 ∧ (∀ i, i < 8 → I' 78 i = (btA 8 (okR A) n k r s).2 i) ∧ ∀ Q, Rn sc (d + n) 79 0 [some (.ref 72), some (.int (nI k)), some (.int (nI (skV r k))), some (.int (nI (nkA A r k))), none] [] (K0, I, J, R1 T) Q = Q none (K0, I', J, R1 T) := by
  intro n
  induction n with
  | zero =>
    intro k r I s hk hr eB hp hm hF hb
    obtain rfl : k = 8 := by omega
    rw [bt_0]
    by_cases c : s.1 = 0
    · refine ⟨uC (uI I 72 6 (nI (s.1 + 1))) 77 78 0 0 8, fun c j hc => by rw [uC_n (by omega), uI_n (by omega)], fun i hi => by rw [uC_n (by omega), uI_n (by omega)]; exact hp i hi, by rw [uC_n (by omega), uI_s], fun i hi => ?_, fun Q => ?_⟩
      · show _ = (if s.1 = 0 then fun i => nI (r i) else s.2) i
        rw [if_pos c, uC_i (by omega), uI_n (by omega), show 0 + (i - 0) = i by omega]
        exact hp i hi
      · rw [c] at hm ⊢
        simp (disch := first | assumption | omega | decide) only [x79_0, x79_1, x79_2, x79_3, x79_4, x79_5, x79_6, x79_7, x79_8, x79_9, x79_10, x79_11, x79_12, x79_13, x79_14, x79_15, x79_16, x79_17, x79_18, x79_19, x79_20, x79_21, ↓reduceIte, Option.toList, List.nil_append, List.cons_append, nI_add, pk_mul, n_and, n_or, n_xor, nI_leI, nI_ltI, nI_eq, n_z, uI_s, uI_n, bI_n0, bI_n1, bT, bF, if_true, if_false, not_true, not_false_eq_true, pk_div, pk_rem, Nat.reduceEqDiff, Nat.reduceLeDiff, Nat.reduceLT, Nat.reduceAdd, Nat.reduceMul, Nat.reduceSub, Nat.not_lt_zero, Nat.zero_le, reduceCtorEq, ite_self, n_rem, and_self, and_true, true_and, and_false, false_and, hm]
    · refine ⟨uI I 72 6 (nI (s.1 + 1)), fun c j hc => uI_n (by omega), fun i hi => by rw [uI_n (by omega)]; exact hp i hi, uI_s, fun i hi => ?_, fun Q => ?_⟩
      · show _ = (if s.1 = 0 then fun i => nI (r i) else s.2) i
        rw [if_neg c, uI_n (by omega)]
        exact hF i hi
      · have c' : ¬ s.1 + 1 = 1 := by omega
        simp (disch := first | assumption | omega | decide) only [x79_0, x79_1, x79_2, x79_3, x79_4, x79_5, x79_6, x79_7, x79_8, x79_9, x79_10, x79_11, x79_12, x79_13, x79_14, x79_15, x79_16, x79_17, x79_18, x79_19, x79_20, x79_21, ↓reduceIte, Option.toList, List.nil_append, List.cons_append, nI_add, pk_mul, n_and, n_or, n_xor, nI_leI, nI_ltI, nI_eq, n_z, uI_s, uI_n, bI_n0, bI_n1, bT, bF, if_true, if_false, not_true, not_false_eq_true, pk_div, pk_rem, Nat.reduceEqDiff, Nat.reduceLeDiff, Nat.reduceLT, Nat.reduceAdd, Nat.reduceMul, Nat.reduceSub, Nat.not_lt_zero, Nat.zero_le, reduceCtorEq, ite_self, n_rem, and_self, and_true, true_and, and_false, false_and, hm, c']
  | succ n ih =>
    intro k r I s hk hr eB hp hm hF hb
    have lk : k < 8 := by omega
    have ls := sk_lt k hr
    have ln := nk_lt (r := r) (k := k) w
    have la : nkA A r k &&& (skV r k ^^^ 4294967295) < 256 := Nat.lt_of_le_of_lt Nat.and_le_left ln
    rw [bt_s]
    obtain ⟨I', ⟨h1, h2, h4, h5⟩, h3⟩ := iterE (fun h I' => (∀ c j, c ≠ 77 ∧ c ≠ 78 ∧ (c ≠ 72 ∨ j ≠ 6) → I' c j = I c j) ∧ (∀ i, i < k → I' 77 i = nI (r i)) ∧ I' 72 6 = nI (foldS (chB 8 (okR A) n k r) s h).1 ∧ (∀ i, i < 8 → I' 78 i = (foldS (chB 8 (okR A) n k r) s h).2 i)) (fun h I' => fun Q => Rn sc (d + n + 1) 79 24 [some (.ref 72), some (.int (nI k)), some (.int (nI (skV r k))), some (.int (nI (nkA A r k))), some (.int (nI h))] [] (K0, I', J, R1 T) Q) 8 (by
      rintro h I1 hh ⟨f1, p1, m1, g1⟩
      have lh : ¬ 8 ≤ h := by omega
      have eB1 : BsC I1 A := fun x hx => (f1 _ _ (by omega)).trans (eB x hx)
      have e4 := eB1 h hh
      rw [foldS_s]
      obtain ⟨t, et⟩ : ∃ t, t = foldS (chB 8 (okR A) n k r) s h := ⟨_, rfl⟩
      have hb1 := fd_b (ok := okR A) (k := k) (r := r) hh hb
      rw [← et] at m1 g1 hb1 ⊢
      unfold chB
      by_cases c : okR A k r h
      · rw [if_pos c]
        obtain ⟨I2, f2, p2, m2, g2, q2⟩ := ih (k + 1) (upA r k h) (uI I1 77 k (nI h)) t (by omega) (fun i hi => by
            by_cases e : i = k
            · rw [upA_e e]; exact hh
            · rw [upA_n e]; exact hr i (by omega)) (fun x hx => (uI_n (by omega)).trans (eB1 x hx)) (fun i hi => by
            by_cases e : i = k
            · rw [upA_e e, e, uI_s]
            · rw [upA_n e, uI_n (by omega)]; exact p1 i (by omega)) ((uI_n (by omega)).trans m1) (fun i hi => (uI_n (by omega)).trans (g1 i hi)) hb1
        rw [sk_u, nk_u] at q2
        refine ⟨I2, ⟨fun c j hc => (f2 c j hc).trans ((uI_n (by omega)).trans (f1 c j hc)), fun i hi => by rw [p2 i (by omega), upA_n (by omega)], m2, g2⟩, funext fun Q => ?_⟩
        show Rn _ _ _ _ _ _ _ _ = Rn _ _ _ _ _ _ _ _
        have c' : (nkA A r k &&& (skV r k ^^^ 4294967295)) / 2 ^ h % 2 = 1 := c
        have e4' : uI I1 77 k (nI h) 4 h = nI (bes A h) := (uI_n (by omega)).trans e4
        rw [x79_24]
        simp (disch := first | assumption | omega | decide) only [x79_25, x79_26, x79_27, x79_28, x79_29, x79_30, x79_31, x79_32, x79_33, x79_34, x79_35, x79_36, x79_37, x79_38, x79_39, x79_40, x79_41, x79_42, x79_43, x79_44, x79_45, x79_46, x79_47, x79_48, x79_49, x79_50, x79_51, x79_52, x79_53, x79_54, x79_55, x79_56, x79_57, x79_58, x79_59, ↓reduceIte, Option.toList, List.nil_append, List.cons_append, nI_add, pk_mul, n_and, n_or, n_xor, nI_leI, nI_ltI, nI_eq, n_z, uI_s, uI_n, bI_n0, bI_n1, bT, bF, if_true, if_false, not_true, not_false_eq_true, pk_div, pk_rem, Nat.reduceEqDiff, Nat.reduceLeDiff, Nat.reduceLT, Nat.reduceAdd, Nat.reduceMul, Nat.reduceSub, Nat.not_lt_zero, Nat.zero_le, reduceCtorEq, ite_self, n_rem, and_self, and_true, true_and, and_false, false_and, lh, ng_I, n_bit, c', n_one, e4', e4, q2]
      · rw [if_neg c]
        have c' : ¬ (nkA A r k &&& (skV r k ^^^ 4294967295)) / 2 ^ h % 2 = 1 := c
        refine ⟨I1, ⟨f1, p1, m1, g1⟩, funext fun Q => ?_⟩
        show Rn _ _ _ _ _ _ _ _ = Rn _ _ _ _ _ _ _ _
        rw [x79_24]
        simp (disch := first | assumption | omega | decide) only [x79_25, x79_26, x79_27, x79_28, x79_29, x79_30, x79_31, x79_32, x79_33, x79_34, x79_35, x79_36, x79_37, x79_38, x79_39, x79_40, x79_41, x79_42, x79_43, x79_44, x79_45, x79_46, x79_47, x79_48, x79_49, x79_50, x79_51, x79_52, x79_53, x79_54, x79_55, x79_56, x79_57, x79_58, x79_59, ↓reduceIte, Option.toList, List.nil_append, List.cons_append, nI_add, pk_mul, n_and, n_or, n_xor, nI_leI, nI_ltI, nI_eq, n_z, uI_s, uI_n, bI_n0, bI_n1, bT, bF, if_true, if_false, not_true, not_false_eq_true, pk_div, pk_rem, Nat.reduceEqDiff, Nat.reduceLeDiff, Nat.reduceLT, Nat.reduceAdd, Nat.reduceMul, Nat.reduceSub, Nat.not_lt_zero, Nat.zero_le, reduceCtorEq, ite_self, n_rem, and_self, and_true, true_and, and_false, false_and, lh, ng_I, n_bit, c']) I ⟨fun _ _ _ => rfl, hp, hm, hF⟩
    refine ⟨I', h1, h2, h4, h5, fun Q => ?_⟩
    have h3' := congrFun h3 Q
    have lk' : k < 8 := lk
    show Rn sc (d + n + 1) 79 0 _ _ _ _ = _
    simp (disch := first | assumption | omega | decide) only [x79_0, x79_1, x79_2, x79_22, x79_23, ↓reduceIte, Option.toList, List.nil_append, List.cons_append, nI_add, pk_mul, n_and, n_or, n_xor, nI_leI, nI_ltI, nI_eq, n_z, uI_s, uI_n, bI_n0, bI_n1, bT, bF, if_true, if_false, not_true, not_false_eq_true, pk_div, pk_rem, Nat.reduceEqDiff, Nat.reduceLeDiff, Nat.reduceLT, Nat.reduceAdd, Nat.reduceMul, Nat.reduceSub, Nat.not_lt_zero, Nat.zero_le, reduceCtorEq, ite_self, n_rem, and_self, and_true, true_and, and_false, false_and, lk']
    refine Eq.trans h3' ?_
    show Rn _ _ _ _ _ _ _ _ = _
    rw [x79_24]
    simp (disch := first | assumption | omega | decide) only [x79_25, x79_26, x79_60, ↓reduceIte, Option.toList, List.nil_append, List.cons_append, nI_add, pk_mul, n_and, n_or, n_xor, nI_leI, nI_ltI, nI_eq, n_z, uI_s, uI_n, bI_n0, bI_n1, bT, bF, if_true, if_false, not_true, not_false_eq_true, pk_div, pk_rem, Nat.reduceEqDiff, Nat.reduceLeDiff, Nat.reduceLT, Nat.reduceAdd, Nat.reduceMul, Nat.reduceSub, Nat.not_lt_zero, Nat.zero_le, reduceCtorEq, ite_self, n_rem, and_self, and_true, true_and, and_false, false_and, Nat.le_refl]
theorem lf_M {I : Nat → Nat → Int32} {m v l : Nat} {u : Option Value} {r : Nat → Nat} (hp : ∀ i, i < 8 → I 100 i = nI (r i)) : ∃ I', (∀ i, i < 8 → I' 101 i = nI (r i)) ∧ (∀ c j, c ≠ 101 → I' c j = I c j) ∧ ∀ Q, Rn sc d 282 111 [some (.ref 89), some (.int (nI m)), some (.int (nI v)), some (.int (nI l)), u] [] (K0, I, J, R1 T) Q = Rn sc d 282 126 [some (.ref 89), some (.int (nI m)), some (.int (nI v)), some (.int (nI l)), some (.int (nI 8))] [] (K0, I', J, R1 T) Q := by
  obtain ⟨I', ⟨h1, h2⟩, h3⟩ := iterE (fun j I' => (∀ i, i < j → I' 101 i = nI (r i)) ∧ ∀ c j, c ≠ 101 → I' c j = I c j) (fun j I' => fun Q => Rn sc d 282 113 [some (.ref 89), some (.int (nI m)), some (.int (nI v)), some (.int (nI l)), some (.int (nI j))] [] (K0, I', J, R1 T) Q) 8 (by
    rintro j I1 hj ⟨k1, f1⟩
    have lj : ¬ 8 ≤ j := by omega
    have e0 : I1 100 j = nI (r j) := (f1 _ _ (by omega)).trans (hp j hj)
    refine ⟨uI I1 101 j (nI (r j)), ⟨fun i hi => ?_, fun c k hc => (uI_n (by omega)).trans (f1 c k hc)⟩, funext fun Q => ?_⟩
    · by_cases e : i = j
      · rw [e, uI_s]
      · rw [uI_n (by omega)]
        exact k1 i (by omega)
    · show Rn _ _ _ _ _ _ _ _ = Rn _ _ _ _ _ _ _ _
      rw [x282_113]
      simp (disch := first | assumption | omega | decide) only [x282_114, x282_115, x282_116, x282_117, x282_118, x282_119, x282_120, x282_121, x282_122, x282_123, x282_124, x282_125, ↓reduceIte, Option.toList, List.nil_append, List.cons_append, nI_add, pk_mul, n_and, n_or, n_xor, nI_leI, nI_ltI, nI_eq, n_z, uI_s, uI_n, bI_n0, bI_n1, bT, bF, if_true, if_false, not_true, not_false_eq_true, pk_div, pk_rem, Nat.reduceEqDiff, Nat.reduceLeDiff, Nat.reduceLT, Nat.reduceAdd, Nat.reduceMul, Nat.reduceSub, Nat.not_lt_zero, Nat.zero_le, reduceCtorEq, ite_self, n_rem, and_self, and_true, true_and, and_false, false_and, lj, e0]) I ⟨fun i hi => by omega, fun _ _ _ => rfl⟩
  refine ⟨I', h1, h2, fun Q => ?_⟩
  have h3' := congrFun h3 Q
  simp (disch := first | assumption | omega | decide) only [x282_111, x282_112, ↓reduceIte, Option.toList, List.nil_append, List.cons_append, nI_add, pk_mul, n_and, n_or, n_xor, nI_leI, nI_ltI, nI_eq, n_z, uI_s, uI_n, bI_n0, bI_n1, bT, bF, if_true, if_false, not_true, not_false_eq_true, pk_div, pk_rem, Nat.reduceEqDiff, Nat.reduceLeDiff, Nat.reduceLT, Nat.reduceAdd, Nat.reduceMul, Nat.reduceSub, Nat.not_lt_zero, Nat.zero_le, reduceCtorEq, ite_self, n_rem, and_self, and_true, true_and, and_false, false_and]
  refine Eq.trans h3' ?_
  show Rn _ _ _ _ _ _ _ _ = _
  rw [x282_113]
  simp (disch := first | assumption | omega | decide) only [x282_114, x282_115, ↓reduceIte, Option.toList, List.nil_append, List.cons_append, nI_add, pk_mul, n_and, n_or, n_xor, nI_leI, nI_ltI, nI_eq, n_z, uI_s, uI_n, bI_n0, bI_n1, bT, bF, if_true, if_false, not_true, not_false_eq_true, pk_div, pk_rem, Nat.reduceEqDiff, Nat.reduceLeDiff, Nat.reduceLT, Nat.reduceAdd, Nat.reduceMul, Nat.reduceSub, Nat.not_lt_zero, Nat.zero_le, reduceCtorEq, ite_self, n_rem, and_self, and_true, true_and, and_false, false_and, Nat.le_refl]
/-- what one level of the reference comes to -/
def LvM (sc : Sc) (d : Nat) (A : Nat → Nat) (J : Nat → Nat → Int64) (T : Option Nat) (n : Nat) : Prop := ∀ (k : Nat) (r : Nat → Nat) (I : Nat → Nat → Int32) (s : Nat × (Nat → Int32)) (u : Option Value), k + n = 7 → (∀ i, i < k → r i < 8) → AtM I 90 A → (∀ i, i < k → I 100 i = nI (r i)) → I 100 k = -1 → (∀ i, i < 8 → I 101 i = s.2 i) → s.1 + 8 ^ (n + 1) ≤ 2 ^ 30 → ∃ (I' : Nat → Nat → Int32) (u' : Option Value), (∀ c j, c ≠ 100 ∧ c ≠ 101 → I' c j = I c j) ∧ (∀ i, i < k → I' 100 i = nI (r i)) ∧ (∀ i, i < 8 → I' 101 i = (btA 8 (okR A) (n + 1) k r s).2 i) ∧ ∀ Q, Rn sc (d + 1) 282 11 [some (.ref 89), some (.int (nI s.1)), some (.int (nI (skV r k))), some (.int (nI k)), u] [] (K0, I, J, R1 T) Q = Rn sc (d + 1) 282 11 [some (.ref 89), some (.int (nI (btA 8 (okR A) (n + 1) k r s).1)), some (.int (nI (skV r k))), some (.int (enB k)), u'] [] (K0, I', J, R1 T) Q
theorem lv_M {n : Nat} (w : Wf A) (H : ∀ m, m + 1 = n → LvM sc d A J T m) : LvM sc d A J T n := by
  intro k r I s u hk hr mA hp h0 hF hb
  have lk : k < 8 := by omega
  have ls := sk_lt k hr
  rw [bt_s]
  obtain ⟨⟨I', u'⟩, ⟨h1, h2, h4, h5⟩, h3⟩ := iterE (St := (Nat → Nat → Int32) × Option Value) (fun h t => (∀ c j, c ≠ 100 ∧ c ≠ 101 → t.1 c j = I c j) ∧ (∀ i, i < k → t.1 100 i = nI (r i)) ∧ t.1 100 k = nI h ∧ (∀ i, i < 8 → t.1 101 i = (foldS (chB 8 (okR A) n k r) s h).2 i)) (fun h t => fun Q => Rn sc (d + 1) 282 37 [some (.ref 89), some (.int (nI (foldS (chB 8 (okR A) n k r) s h).1)), some (.int (nI (skV r k))), some (.int (nI k)), t.2] [] (K0, t.1, J, R1 T) Q) 8 (by
    rintro h ⟨I1, u1⟩ hh ⟨f1, p1, z1, g1⟩
    have f1 : ∀ c j, c ≠ 100 ∧ c ≠ 101 → I1 c j = I c j := f1
    have p1 : ∀ i, i < k → I1 100 i = nI (r i) := p1
    have z1 : I1 100 k = nI h := z1
    have lh : ¬ 8 ≤ h := by omega
    have mA1 : AtM I1 90 A := AtM_c mA (fun k => f1 _ _ (by omega))
    rw [foldS_s]
    obtain ⟨t, et⟩ : ∃ t, t = foldS (chB 8 (okR A) n k r) s h := ⟨_, rfl⟩
    have hb1 := fd_b (ok := okR A) (k := k) (r := r) hh hb
    have g2' : ∀ i, i < 8 → I1 101 i = t.2 i := fun i hi => by rw [et]; exact g1 i hi
    rw [← et] at hb1 ⊢
    unfold chB
    have hn1 : ¬ h = 8 := by omega
    have skip : ∀ (P : Prop), ¬ okR A k r h → (∀ Q, Rn sc (d + 1) 282 37 [some (.ref 89), some (.int (nI t.1)), some (.int (nI (skV r k))), some (.int (nI k)), u1] [] (K0, I1, J, R1 T) Q = Rn sc (d + 1) 282 37 [some (.ref 89), some (.int (nI t.1)), some (.int (nI (skV r k))), some (.int (nI k)), u1] [] (K0, uI I1 100 k (nI (h + 1)), J, R1 T) Q) := by
      intro _ c Q
      have c := fun e => c ((okR_i hh).mpr e)
      rw [x282_37]
      by_cases c1 : skV r k / 2 ^ h % 2 = 1
      · simp (disch := first | assumption | omega | decide) only [x282_38, x282_39, x282_40, x282_41, x282_42, x282_43, x282_44, x282_45, x282_46, x282_47, x282_48, x282_49, x282_50, x282_51, x282_52, x282_53, x282_54, x282_55, x282_56, x282_57, x282_58, x282_59, x282_60, x282_61, x282_62, x282_63, x282_64, x282_65, x282_66, x282_67, x282_68, x282_69, x282_70, x282_71, x282_72, x282_73, x282_74, ↓reduceIte, Option.toList, List.nil_append, List.cons_append, nI_add, pk_mul, n_and, n_or, n_xor, nI_leI, nI_ltI, nI_eq, n_z, uI_s, uI_n, bI_n0, bI_n1, bT, bF, if_true, if_false, not_true, not_false_eq_true, pk_div, pk_rem, Nat.reduceEqDiff, Nat.reduceLeDiff, Nat.reduceLT, Nat.reduceAdd, Nat.reduceMul, Nat.reduceSub, Nat.not_lt_zero, Nat.zero_le, reduceCtorEq, ite_self, n_rem, and_self, and_true, true_and, and_false, false_and, z1, lh, sp_has, c1]
      · cases k with
        | zero =>
          exact absurd ⟨tb_iff.mpr (t255 h hh), c1⟩ c
        | succ k =>
          have c2 : ¬ bes A (r k) / 2 ^ h % 2 = 1 := fun e => c ⟨e, c1⟩
          have pk := p1 k (by omega)
          have rk := hr k (by omega)
          have lb : bes A (r k) < 256 := bes_lt w
          have bm := fun Q => sp_besM (Q := Q) (sc := sc) (d := d) (J := J) (T := T) (u2 := none) (u3 := none) rk w mA1
          have k0 : ¬ k + 1 ≤ 0 := by omega
          simp (disch := first | assumption | omega | decide) only [x282_38, x282_39, x282_40, x282_41, x282_42, x282_43, x282_44, x282_45, x282_46, x282_47, x282_48, x282_49, x282_50, x282_51, x282_52, x282_53, x282_54, x282_55, x282_56, x282_57, x282_58, x282_59, x282_60, x282_61, x282_62, x282_63, x282_64, x282_65, x282_66, x282_67, x282_68, x282_69, x282_70, x282_71, x282_72, x282_73, x282_74, ↓reduceIte, Option.toList, List.nil_append, List.cons_append, nI_add, pk_mul, n_and, n_or, n_xor, nI_leI, nI_ltI, nI_eq, n_z, uI_s, uI_n, bI_n0, bI_n1, bT, bF, if_true, if_false, not_true, not_false_eq_true, pk_div, pk_rem, Nat.reduceEqDiff, Nat.reduceLeDiff, Nat.reduceLT, Nat.reduceAdd, Nat.reduceMul, Nat.reduceSub, Nat.not_lt_zero, Nat.zero_le, reduceCtorEq, ite_self, n_rem, and_self, and_true, true_and, and_false, false_and, z1, lh, sp_has, c1, k0, n_sub (show 1 ≤ k + 1 by omega), Nat.add_sub_cancel, pk, bm, c2]
    by_cases c : okR A k r h
    · rw [if_pos c]
      have c12 := (okR_i hh).mp c
      have enter : ∀ Q, Rn sc (d + 1) 282 37 [some (.ref 89), some (.int (nI t.1)), some (.int (nI (skV r k))), some (.int (nI k)), u1] [] (K0, I1, J, R1 T) Q = Rn sc (d + 1) 282 97 [some (.ref 89), some (.int (nI t.1)), some (.int (nI (skV r k ||| 2 ^ h))), some (.int (nI k)), u1] [] (K0, I1, J, R1 T) Q := by
        intro Q
        rw [x282_37]
        cases k with
        | zero =>
          simp (disch := first | assumption | omega | decide) only [x282_38, x282_39, x282_40, x282_41, x282_42, x282_43, x282_44, x282_45, x282_46, x282_47, x282_48, x282_49, x282_50, x282_51, x282_52, x282_53, x282_54, x282_55, x282_56, x282_57, x282_58, x282_59, x282_60, x282_61, x282_62, x282_63, x282_64, x282_65, x282_66, x282_67, x282_68, x282_69, x282_70, x282_71, x282_72, x282_73, x282_74, x282_75, x282_76, x282_77, x282_78, x282_79, x282_80, x282_81, x282_82, x282_83, x282_84, x282_85, x282_86, x282_87, x282_88, x282_89, x282_90, x282_91, x282_92, x282_93, x282_94, x282_95, x282_96, ↓reduceIte, Option.toList, List.nil_append, List.cons_append, nI_add, pk_mul, n_and, n_or, n_xor, nI_leI, nI_ltI, nI_eq, n_z, uI_s, uI_n, bI_n0, bI_n1, bT, bF, if_true, if_false, not_true, not_false_eq_true, pk_div, pk_rem, Nat.reduceEqDiff, Nat.reduceLeDiff, Nat.reduceLT, Nat.reduceAdd, Nat.reduceMul, Nat.reduceSub, Nat.not_lt_zero, Nat.zero_le, reduceCtorEq, ite_self, n_rem, and_self, and_true, true_and, and_false, false_and, z1, lh, sp_has, c12.2, hn1, n_one, Nat.le_refl]
        | succ k =>
          have pk := p1 k (by omega)
          have rk := hr k (by omega)
          have lb : bes A (r k) < 256 := bes_lt w
          have bm := fun Q => sp_besM (Q := Q) (sc := sc) (d := d) (J := J) (T := T) (u2 := none) (u3 := none) rk w mA1
          have k0 : ¬ k + 1 ≤ 0 := by omega
          have c1 : bes A (r k) / 2 ^ h % 2 = 1 := c12.1
          simp (disch := first | assumption | omega | decide) only [x282_38, x282_39, x282_40, x282_41, x282_42, x282_43, x282_44, x282_45, x282_46, x282_47, x282_48, x282_49, x282_50, x282_51, x282_52, x282_53, x282_54, x282_55, x282_56, x282_57, x282_58, x282_59, x282_60, x282_61, x282_62, x282_63, x282_64, x282_65, x282_66, x282_67, x282_68, x282_69, x282_70, x282_71, x282_72, x282_73, x282_74, x282_75, x282_76, x282_77, x282_78, x282_79, x282_80, x282_81, x282_82, x282_83, x282_84, x282_85, x282_86, x282_87, x282_88, x282_89, x282_90, x282_91, x282_92, x282_93, x282_94, x282_95, x282_96, ↓reduceIte, Option.toList, List.nil_append, List.cons_append, nI_add, pk_mul, n_and, n_or, n_xor, nI_leI, nI_ltI, nI_eq, n_z, uI_s, uI_n, bI_n0, bI_n1, bT, bF, if_true, if_false, not_true, not_false_eq_true, pk_div, pk_rem, Nat.reduceEqDiff, Nat.reduceLeDiff, Nat.reduceLT, Nat.reduceAdd, Nat.reduceMul, Nat.reduceSub, Nat.not_lt_zero, Nat.zero_le, reduceCtorEq, ite_self, n_rem, and_self, and_true, true_and, and_false, false_and, z1, lh, sp_has, c12.2, hn1, n_one, k0, n_sub (show 1 ≤ k + 1 by omega), Nat.add_sub_cancel, pk, bm, c1]
      have leave : ∀ (I2 : Nat → Nat → Int32) (u2 : Option Value) (m : Nat), I2 100 k = nI h → ∀ Q, Rn sc (d + 1) 282 11 [some (.ref 89), some (.int (nI m)), some (.int (nI (skV r k ||| 2 ^ h))), some (.int (nI k)), u2] [] (K0, I2, J, R1 T) Q = Rn sc (d + 1) 282 37 [some (.ref 89), some (.int (nI m)), some (.int (nI (skV r k))), some (.int (nI k)), u2] [] (K0, uI I2 100 k (nI (h + 1)), J, R1 T) Q := by
        intro I2 u2 m e Q
        rw [x282_11]
        simp (disch := first | assumption | omega | decide) only [x282_12, x282_13, x282_14, x282_15, x282_16, x282_17, x282_18, x282_19, x282_20, x282_21, x282_22, x282_23, x282_24, x282_25, x282_26, x282_27, x282_28, x282_29, x282_30, x282_31, x282_32, x282_33, x282_34, x282_35, x282_36, ↓reduceIte, Option.toList, List.nil_append, List.cons_append, nI_add, pk_mul, n_and, n_or, n_xor, nI_leI, nI_ltI, nI_eq, n_z, uI_s, uI_n, bI_n0, bI_n1, bT, bF, if_true, if_false, not_true, not_false_eq_true, pk_div, pk_rem, Nat.reduceEqDiff, Nat.reduceLeDiff, Nat.reduceLT, Nat.reduceAdd, Nat.reduceMul, Nat.reduceSub, Nat.not_lt_zero, Nat.zero_le, reduceCtorEq, ite_self, n_rem, and_self, and_true, true_and, and_false, false_and, e, n_one, ng_I, unb8 ls hh c12.2]
      by_cases cn : n = 0
      · subst cn
        rw [bt_0]
        have k7 : k = 7 := by omega
        have kk : 8 ≤ k + 1 := by omega
        have pf : ∀ i, i < 8 → I1 100 i = nI (upA r k h i) := fun i hi => by
          by_cases e : i = k
          · rw [e, upA_s]; exact z1
          · rw [upA_n e]; exact p1 i (by omega)
        by_cases c0 : t.1 = 0
        · obtain ⟨I2, k2, f2, q2⟩ := lf_M (sc := sc) (d := d + 1) (J := J) (T := T) (m := t.1) (v := skV r k ||| 2 ^ h) (l := k) (u := u1) pf
          refine ⟨(uI I2 100 k (nI (h + 1)), some (.int (nI 8))), ⟨fun c j hc => (uI_n (by omega)).trans ((f2 c j hc.2).trans (f1 c j hc)), fun i hi => (uI_n (Or.inr (Nat.ne_of_lt hi))).trans ((f2 _ _ (by omega)).trans (p1 i hi)), uI_s, fun i hi => ?_⟩, funext fun Q => ?_⟩
          · show uI I2 100 k (nI (h + 1)) 101 i = (if t.1 = 0 then fun i => nI (upA r k h i) else t.2) i
            rw [if_pos c0, uI_n (by omega)]
            exact k2 i hi
          · show Rn _ _ _ _ _ _ _ _ = Rn _ _ _ _ _ _ _ _
            rw [enter, ← leave I2 (some (.int (nI 8))) (t.1 + 1) ((f2 _ _ (by omega)).trans z1) Q]
            rw [c0] at q2 ⊢
            simp (disch := first | assumption | omega | decide) only [x282_97, x282_98, x282_99, x282_100, x282_101, x282_109, x282_110, ↓reduceIte, Option.toList, List.nil_append, List.cons_append, nI_add, pk_mul, n_and, n_or, n_xor, nI_leI, nI_ltI, nI_eq, n_z, uI_s, uI_n, bI_n0, bI_n1, bT, bF, if_true, if_false, not_true, not_false_eq_true, pk_div, pk_rem, Nat.reduceEqDiff, Nat.reduceLeDiff, Nat.reduceLT, Nat.reduceAdd, Nat.reduceMul, Nat.reduceSub, Nat.not_lt_zero, Nat.zero_le, reduceCtorEq, ite_self, n_rem, and_self, and_true, true_and, and_false, false_and, kk, q2]
            simp (disch := first | assumption | omega | decide) only [x282_126, x282_127, ↓reduceIte, Option.toList, List.nil_append, List.cons_append, nI_add, pk_mul, n_and, n_or, n_xor, nI_leI, nI_ltI, nI_eq, n_z, uI_s, uI_n, bI_n0, bI_n1, bT, bF, if_true, if_false, not_true, not_false_eq_true, pk_div, pk_rem, Nat.reduceEqDiff, Nat.reduceLeDiff, Nat.reduceLT, Nat.reduceAdd, Nat.reduceMul, Nat.reduceSub, Nat.not_lt_zero, Nat.zero_le, reduceCtorEq, ite_self, n_rem, and_self, and_true, true_and, and_false, false_and]
        · refine ⟨(uI I1 100 k (nI (h + 1)), u1), ⟨fun c j hc => (uI_n (by omega)).trans (f1 c j hc), fun i hi => (uI_n (Or.inr (Nat.ne_of_lt hi))).trans (p1 i hi), uI_s, fun i hi => ?_⟩, funext fun Q => ?_⟩
          · show uI I1 100 k (nI (h + 1)) 101 i = (if t.1 = 0 then fun i => nI (upA r k h i) else t.2) i
            rw [if_neg c0, uI_n (by omega)]
            exact g2' i hi
          · show Rn _ _ _ _ _ _ _ _ = Rn _ _ _ _ _ _ _ _
            rw [enter, ← leave I1 u1 (t.1 + 1) z1 Q]
            have lt : t.1 < 2 ^ 31 := by omega
            simp (disch := first | assumption | omega | decide) only [x282_97, x282_98, x282_99, x282_100, x282_101, x282_109, x282_110, ↓reduceIte, Option.toList, List.nil_append, List.cons_append, nI_add, pk_mul, n_and, n_or, n_xor, nI_leI, nI_ltI, nI_eq, n_z, uI_s, uI_n, bI_n0, bI_n1, bT, bF, if_true, if_false, not_true, not_false_eq_true, pk_div, pk_rem, Nat.reduceEqDiff, Nat.reduceLeDiff, Nat.reduceLT, Nat.reduceAdd, Nat.reduceMul, Nat.reduceSub, Nat.not_lt_zero, Nat.zero_le, reduceCtorEq, ite_self, n_rem, and_self, and_true, true_and, and_false, false_and, kk, c0]
            simp (disch := first | assumption | omega | decide) only [x282_126, x282_127, ↓reduceIte, Option.toList, List.nil_append, List.cons_append, nI_add, pk_mul, n_and, n_or, n_xor, nI_leI, nI_ltI, nI_eq, n_z, uI_s, uI_n, bI_n0, bI_n1, bT, bF, if_true, if_false, not_true, not_false_eq_true, pk_div, pk_rem, Nat.reduceEqDiff, Nat.reduceLeDiff, Nat.reduceLT, Nat.reduceAdd, Nat.reduceMul, Nat.reduceSub, Nat.not_lt_zero, Nat.zero_le, reduceCtorEq, ite_self, n_rem, and_self, and_true, true_and, and_false, false_and]
      · obtain ⟨m, rfl⟩ : ∃ m, n = m + 1 := ⟨n - 1, by omega⟩
        have kk : ¬ 8 ≤ k + 1 := by omega
        have k8 : k + 1 < 8 := by omega
        obtain ⟨I2, u2, f2, p2, g2, q2⟩ := H m rfl (k + 1) (upA r k h) (uI I1 100 (k + 1) (-1)) t u1 (by omega) (fun i hi => by
            by_cases e : i = k
            · rw [upA_e e]; exact hh
            · rw [upA_n e]; exact hr i (by omega)) (AtM_c mA1 (fun k => uI_n (by omega))) (fun i hi => by
            rw [uI_n (by omega)]
            by_cases e : i = k
            · rw [e, upA_s]; exact z1
            · rw [upA_n e]; exact p1 i (by omega)) uI_s (fun i hi => (uI_n (c' := 101) (c := 100) (Or.inl (by decide))).trans (g2' i hi)) hb1
        rw [sk_u, enB_s] at q2
        have z2 : I2 100 k = nI h := by rw [p2 k (by omega), upA_s]
        refine ⟨(uI I2 100 k (nI (h + 1)), u2), ⟨fun c j hc => (uI_n (by omega)).trans ((f2 c j hc).trans ((uI_n (by omega)).trans (f1 c j hc))), fun i hi => (uI_n (Or.inr (Nat.ne_of_lt hi))).trans ((p2 i (by omega)).trans (congrArg nI (upA_n (by omega)))), uI_s, fun i hi => by
            show uI I2 100 k (nI (h + 1)) 101 i = _
            rw [uI_n (by omega)]
            exact g2 i hi⟩, funext fun Q => ?_⟩
        show Rn _ _ _ _ _ _ _ _ = Rn _ _ _ _ _ _ _ _
        rw [enter, ← leave I2 u2 _ z2 Q, ← q2]
        simp (disch := first | assumption | omega | decide) only [x282_97, x282_98, x282_99, x282_100, x282_101, x282_102, x282_103, x282_104, x282_105, x282_106, x282_107, x282_108, ↓reduceIte, Option.toList, List.nil_append, List.cons_append, nI_add, pk_mul, n_and, n_or, n_xor, nI_leI, nI_ltI, nI_eq, n_z, uI_s, uI_n, bI_n0, bI_n1, bT, bF, if_true, if_false, not_true, not_false_eq_true, pk_div, pk_rem, Nat.reduceEqDiff, Nat.reduceLeDiff, Nat.reduceLT, Nat.reduceAdd, Nat.reduceMul, Nat.reduceSub, Nat.not_lt_zero, Nat.zero_le, reduceCtorEq, ite_self, n_rem, and_self, and_true, true_and, and_false, false_and, kk]
    · rw [if_neg c]
      refine ⟨(uI I1 100 k (nI (h + 1)), u1), ⟨fun c j hc => (uI_n (by omega)).trans (f1 c j hc), fun i hi => (uI_n (Or.inr (Nat.ne_of_lt hi))).trans (p1 i hi), uI_s, fun i hi => by
          show uI I1 100 k (nI (h + 1)) 101 i = _
          rw [uI_n (by omega)]
          exact g2' i hi⟩, funext fun Q => skip True c Q⟩) (uI I 100 k (nI 0), u) ⟨fun c j hc => uI_n (by omega), fun i hi => (uI_n (Or.inr (Nat.ne_of_lt hi))).trans (hp i hi), uI_s, fun i hi => by
      show uI I 100 k (nI 0) 101 i = _
      rw [uI_n (by omega)]
      exact hF i hi⟩
  have h4 : I' 100 k = nI 8 := h4
  refine ⟨uI I' 100 k (-1), u', fun c j hc => (uI_n (by omega)).trans (h1 c j hc), fun i hi => (uI_n (Or.inr (Nat.ne_of_lt hi))).trans (h2 i hi), fun i hi => by
    rw [uI_n (by omega)]
    exact h5 i hi, fun Q => ?_⟩
  have h3' := congrFun h3 Q
  rw [x282_11]
  simp (disch := first | assumption | omega | decide) only [x282_12, x282_13, x282_14, x282_15, x282_16, x282_17, x282_29, x282_30, x282_31, x282_32, x282_33, x282_34, x282_35, x282_36, ↓reduceIte, Option.toList, List.nil_append, List.cons_append, nI_add, pk_mul, n_and, n_or, n_xor, nI_leI, nI_ltI, nI_eq, n_z, uI_s, uI_n, bI_n0, bI_n1, bT, bF, if_true, if_false, not_true, not_false_eq_true, pk_div, pk_rem, Nat.reduceEqDiff, Nat.reduceLeDiff, Nat.reduceLT, Nat.reduceAdd, Nat.reduceMul, Nat.reduceSub, Nat.not_lt_zero, Nat.zero_le, reduceCtorEq, ite_self, n_rem, and_self, and_true, true_and, and_false, false_and, h0, show ((-1 : Int32) < nI 0) = True from eq_true (by decide), m1_p]
  refine Eq.trans h3' ?_
  show Rn _ _ _ _ _ _ _ _ = _
  rw [x282_37]
  simp (disch := first | assumption | omega | decide) only [x282_38, x282_39, x282_40, x282_41, x282_42, x282_75, x282_76, x282_77, x282_78, x282_79, x282_80, x282_81, x282_82, x282_83, x282_84, x282_85, x282_86, x282_87, ↓reduceIte, Option.toList, List.nil_append, List.cons_append, nI_add, pk_mul, n_and, n_or, n_xor, nI_leI, nI_ltI, nI_eq, n_z, uI_s, uI_n, bI_n0, bI_n1, bT, bF, if_true, if_false, not_true, not_false_eq_true, pk_div, pk_rem, Nat.reduceEqDiff, Nat.reduceLeDiff, Nat.reduceLT, Nat.reduceAdd, Nat.reduceMul, Nat.reduceSub, Nat.not_lt_zero, Nat.zero_le, reduceCtorEq, ite_self, n_rem, and_self, and_true, true_and, and_false, false_and, h4, Nat.le_refl, lv_m (show k ≤ 8 by omega)]
theorem lv_all (w : Wf A) : ∀ n, LvM sc d A J T n
  | 0 => lv_M w (fun m hm => by omega)
  | n + 1 => lv_M w (fun m hm => by
      obtain rfl : m = n := by omega
      exact lv_all w m)
def F00 : Nat → Int32 := fun _ => 0
def rdA (A : Nat → Nat) (F : Nat → Int32) : Nat × (Nat → Int32) := btA 8 (okR A) 8 0 (fun _ => 0) (0, F)
theorem rd_i {A : Nat → Nat} {F F' : Nat → Int32} : (rdA A F).1 = (rdA A F').1 ∧ (0 < (rdA A F).1 → (rdA A F).2 = (rdA A F').2) := bt_i (B := 8) (ok := okR A) 8 0 (fun _ => 0) (0, F) (0, F') rfl (fun h => absurd h (Nat.lt_irrefl 0))
theorem rd_le {A : Nat → Nat} {F : Nat → Int32} : (rdA A F).1 ≤ 2 ^ 24 := Nat.le_trans (bt_le (B := 8) (ok := okR A) 8 0 (fun _ => 0) (0, F)).2 (show 0 + 8 ^ 8 ≤ 2 ^ 24 by decide)
theorem sp_rdC {I : Nat → Nat → Int32} (w : Wf A) (eB : BsC I A) : ∃ I', (∀ c j, c ≠ 77 ∧ c ≠ 78 ∧ (c ≠ 72 ∨ j ≠ 6) → I' c j = I c j) ∧ (0 < (rdA A F00).1 → ∀ i, i < 8 → I' 78 i = (rdA A F00).2 i) ∧ ∀ Q, Rn sc (d + 9) 78 0 [some (.ref 72)] [] (K0, I, J, R1 T) Q = Q (some (.int (nI (rdA A F00).1))) (K0, I', J, R1 T) := by
  obtain ⟨I1, f1, p1, m1, g1, q1⟩ := wk_C (sc := sc) (d := d) (J := J) (T := T) w 8 0 (fun _ => 0) (uI I 72 6 (nI 0)) (0, fun i => I 78 i) rfl (fun i hi => by omega) (fun x hx => (uI_n (by omega)).trans (eB x hx)) (fun i hi => by omega) uI_s (fun i hi => uI_n (by omega)) (show 0 + 8 ^ 8 ≤ 2 ^ 30 by decide)
  have e1 : (btA 8 (okR A) 8 0 (fun _ => 0) (0, fun i => I 78 i)).1 = (rdA A F00).1 := (rd_i (F := fun i => I 78 i)).1
  rw [e1] at m1
  refine ⟨I1, fun c j hc => (f1 c j hc).trans (uI_n (by omega)), fun hp i hi => ?_, fun Q => ?_⟩
  · rw [g1 i hi]
    exact congrFun ((rd_i (F := fun i => I 78 i)).2 (by rw [show (rdA A (fun i => I 78 i)).1 = _ from e1]; exact hp)) i
  · have q1 : ∀ Q, Rn sc (d + 8) 79 0 [some (.ref 72), some (.int (nI 0)), some (.int (nI 0)), some (.int (nI 255)), none] [] (K0, uI I 72 6 (nI 0), J, R1 T) Q = Q none (K0, I1, J, R1 T) := q1
    simp (disch := first | assumption | omega | decide) only [x78_0, x78_1, x78_2, x78_3, x78_4, x78_5, x78_6, x78_7, x78_8, x78_9, x78_10, ↓reduceIte, Option.toList, List.nil_append, List.cons_append, nI_add, pk_mul, n_and, n_or, n_xor, nI_leI, nI_ltI, nI_eq, n_z, uI_s, uI_n, bI_n0, bI_n1, bT, bF, if_true, if_false, not_true, not_false_eq_true, pk_div, pk_rem, Nat.reduceEqDiff, Nat.reduceLeDiff, Nat.reduceLT, Nat.reduceAdd, Nat.reduceMul, Nat.reduceSub, Nat.not_lt_zero, Nat.zero_le, reduceCtorEq, ite_self, n_rem, and_self, and_true, true_and, and_false, false_and, q1, m1]
theorem sp_rdM {I : Nat → Nat → Int32} (w : Wf A) (mA : AtM I 90 A) : ∃ I', (∀ c j, c ≠ 100 ∧ c ≠ 101 → I' c j = I c j) ∧ (0 < (rdA A F00).1 → ∀ i, i < 8 → I' 101 i = (rdA A F00).2 i) ∧ ∀ Q, Rn sc (d + 1) 282 0 [some (.ref 89), none, none, none, none] [] (K0, I, J, R1 T) Q = Q (some (.int (nI (rdA A F00).1))) (K0, I', J, R1 T) := by
  obtain ⟨I1, u1, f1, p1, g1, q1⟩ := lv_all (sc := sc) (d := d) (J := J) (T := T) w 7 0 (fun _ => 0) (uI I 100 0 (-1)) (0, fun i => I 101 i) none rfl (fun i hi => by omega) (AtM_c mA (fun k => uI_n (by omega))) (fun i hi => by omega) uI_s (fun i hi => uI_n (by omega)) (show 0 + 8 ^ 8 ≤ 2 ^ 30 by decide)
  have e1 : (btA 8 (okR A) (7 + 1) 0 (fun _ => 0) (0, fun i => I 101 i)).1 = (rdA A F00).1 := (rd_i (F := fun i => I 101 i)).1
  rw [e1, enB_0] at q1
  refine ⟨I1, fun c j hc => (f1 c j hc).trans (uI_n (by omega)), fun hp i hi => ?_, fun Q => ?_⟩
  · rw [g1 i hi]
    exact congrFun ((rd_i (F := fun i => I 101 i)).2 (by rw [show (rdA A (fun i => I 101 i)).1 = _ from e1]; exact hp)) i
  · have q1 : Rn sc (d + 1) 282 11 [some (.ref 89), some (.int (nI 0)), some (.int (nI 0)), some (.int (nI 0)), none] [] (K0, uI I 100 0 (-1), J, R1 T) Q = _ := q1 Q
    simp (disch := first | assumption | omega | decide) only [x282_0, x282_1, x282_2, x282_3, x282_4, x282_5, x282_6, x282_7, x282_8, x282_9, x282_10, ↓reduceIte, Option.toList, List.nil_append, List.cons_append, nI_add, pk_mul, n_and, n_or, n_xor, nI_leI, nI_ltI, nI_eq, n_z, uI_s, uI_n, bI_n0, bI_n1, bT, bF, if_true, if_false, not_true, not_false_eq_true, pk_div, pk_rem, Nat.reduceEqDiff, Nat.reduceLeDiff, Nat.reduceLT, Nat.reduceAdd, Nat.reduceMul, Nat.reduceSub, Nat.not_lt_zero, Nat.zero_le, reduceCtorEq, ite_self, n_rem, and_self, and_true, true_and, and_false, false_and]
    rw [q1, x282_11]
    simp (disch := first | assumption | omega | decide) only [x282_12, x282_128, x282_129, ↓reduceIte, Option.toList, List.nil_append, List.cons_append, nI_add, pk_mul, n_and, n_or, n_xor, nI_leI, nI_ltI, nI_eq, n_z, uI_s, uI_n, bI_n0, bI_n1, bT, bF, if_true, if_false, not_true, not_false_eq_true, pk_div, pk_rem, Nat.reduceEqDiff, Nat.reduceLeDiff, Nat.reduceLT, Nat.reduceAdd, Nat.reduceMul, Nat.reduceSub, Nat.not_lt_zero, Nat.zero_le, reduceCtorEq, ite_self, n_rem, and_self, and_true, true_and, and_false, false_and, show ((-1 : Int32) < nI 0) = True from eq_true (by decide)]
end Rounds
section Rounds2
variable {TX : (Nat → Nat → Int32) → Nat → Prop} {sc : Sc} {d : Nat}
theorem jt_rounds : Jt TX sc (d + 10) 143 284 [some (.ref 0)] [some (.ref 89)] := by
  intro A B M w _
  have w' := w
  obtain ⟨wA, wB, wt⟩ := w
  refine ⟨nI (rdA A F00).1, A, B, w', Nat.le_refl _, ?_, ?_⟩
  · intro I J T cI _
    obtain ⟨I1, f1, k1, q1⟩ := sp_rdC (sc := sc) (d := d) (J := J) (T := T) wA (BsC_of cI)
    refine ⟨I1, fun c k hc => f1 c k (by omega), CI_c w' cI (fun c k hc => f1 c k (by omega)), fun Q => ?_⟩
    simp (disch := first | assumption | omega | decide) only [x143_0, x143_1, x143_2, x143_3, ↓reduceIte, Option.toList, List.nil_append, List.cons_append, nI_add, pk_mul, n_and, n_or, n_xor, nI_leI, nI_ltI, nI_eq, n_z, uI_s, uI_n, bI_n0, bI_n1, bT, bF, if_true, if_false, not_true, not_false_eq_true, pk_div, pk_rem, Nat.reduceEqDiff, Nat.reduceLeDiff, Nat.reduceLT, Nat.reduceAdd, Nat.reduceMul, Nat.reduceSub, Nat.not_lt_zero, Nat.zero_le, reduceCtorEq, ite_self, n_rem, and_self, and_true, true_and, and_false, false_and, q1]
  · intro I J T mI _
    obtain ⟨I1, f1, k1, q1⟩ := sp_rdM (sc := sc) (d := d + 8) (J := J) (T := T) wA mI.1
    refine ⟨I1, J, ⟨fun c k hc => f1 c k (by omega), fun k hk => f1 _ _ (by omega)⟩, MI_c mI (fun c k hc => f1 c k (by omega)) (f1 _ _ (by omega)), fun Q => ?_⟩
    simp (disch := first | assumption | omega | decide) only [x284_0, x284_1, x284_2, ↓reduceIte, Option.toList, List.nil_append, List.cons_append, nI_add, pk_mul, n_and, n_or, n_xor, nI_leI, nI_ltI, nI_eq, n_z, uI_s, uI_n, bI_n0, bI_n1, bT, bF, if_true, if_false, not_true, not_false_eq_true, pk_div, pk_rem, Nat.reduceEqDiff, Nat.reduceLeDiff, Nat.reduceLT, Nat.reduceAdd, Nat.reduceMul, Nat.reduceSub, Nat.not_lt_zero, Nat.zero_le, reduceCtorEq, ite_self, n_rem, and_self, and_true, true_and, and_false, false_and, q1]
theorem jt_round {x : Int32} : Jt TX sc (d + 10) 142 283 [some (.ref 0), some (.int x)] [some (.ref 89), some (.int x)] := by
  intro A B M w _
  have w' := w
  obtain ⟨wA, wB, wt⟩ := w
  have lr := rd_le (A := A) (F := F00)
  by_cases hx : inR x 8
  · obtain ⟨i, hi, rfl⟩ := hx
    by_cases c : (rdA A F00).1 = 0
    · refine ⟨-2, A, B, w', Nat.le_refl _, ?_, ?_⟩
      · intro I J T cI _
        obtain ⟨I1, f1, k1, q1⟩ := sp_rdC (sc := sc) (d := d) (J := J) (T := T) wA (BsC_of cI)
        rw [c] at q1
        refine ⟨I1, fun c k hc => f1 c k (by omega), CI_c w' cI (fun c k hc => f1 c k (by omega)), fun Q => ?_⟩
        simp (disch := first | assumption | omega | decide) only [x142_0, x142_1, x142_2, x142_3, x142_4, x142_5, x142_6, x142_7, x142_8, x142_9, x142_10, x142_11, x142_12, x142_13, x142_14, ↓reduceIte, Option.toList, List.nil_append, List.cons_append, nI_add, pk_mul, n_and, n_or, n_xor, nI_leI, nI_ltI, nI_eq, n_z, uI_s, uI_n, bI_n0, bI_n1, bT, bF, if_true, if_false, not_true, not_false_eq_true, pk_div, pk_rem, Nat.reduceEqDiff, Nat.reduceLeDiff, Nat.reduceLT, Nat.reduceAdd, Nat.reduceMul, Nat.reduceSub, Nat.not_lt_zero, Nat.zero_le, reduceCtorEq, ite_self, n_rem, and_self, and_true, true_and, and_false, false_and, sp_houC_t, q1]
      · intro I J T mI _
        obtain ⟨I1, f1, k1, q1⟩ := sp_rdM (sc := sc) (d := d + 8) (J := J) (T := T) wA mI.1
        rw [c] at q1
        refine ⟨I1, J, ⟨fun c k hc => f1 c k (by omega), fun k hk => f1 _ _ (by omega)⟩, MI_c mI (fun c k hc => f1 c k (by omega)) (f1 _ _ (by omega)), fun Q => ?_⟩
        simp (disch := first | assumption | omega | decide) only [x283_0, x283_1, x283_2, x283_3, x283_4, x283_5, x283_6, x283_7, x283_8, x283_9, x283_10, x283_11, x283_12, ↓reduceIte, Option.toList, List.nil_append, List.cons_append, nI_add, pk_mul, n_and, n_or, n_xor, nI_leI, nI_ltI, nI_eq, n_z, uI_s, uI_n, bI_n0, bI_n1, bT, bF, if_true, if_false, not_true, not_false_eq_true, pk_div, pk_rem, Nat.reduceEqDiff, Nat.reduceLeDiff, Nat.reduceLT, Nat.reduceAdd, Nat.reduceMul, Nat.reduceSub, Nat.not_lt_zero, Nat.zero_le, reduceCtorEq, ite_self, n_rem, and_self, and_true, true_and, and_false, false_and, sp_houM_t, q1]
    · have c' : ¬ (rdA A F00).1 ≤ 0 := by omega
      refine ⟨(rdA A F00).2 i, A, B, w', Nat.le_refl _, ?_, ?_⟩
      · intro I J T cI _
        obtain ⟨I1, f1, k1, q1⟩ := sp_rdC (sc := sc) (d := d) (J := J) (T := T) wA (BsC_of cI)
        refine ⟨I1, fun c k hc => f1 c k (by omega), CI_c w' cI (fun c k hc => f1 c k (by omega)), fun Q => ?_⟩
        simp (disch := first | assumption | omega | decide) only [x142_0, x142_1, x142_2, x142_3, x142_4, x142_5, x142_6, x142_7, x142_8, x142_9, x142_10, x142_11, x142_12, x142_13, x142_14, ↓reduceIte, Option.toList, List.nil_append, List.cons_append, nI_add, pk_mul, n_and, n_or, n_xor, nI_leI, nI_ltI, nI_eq, n_z, uI_s, uI_n, bI_n0, bI_n1, bT, bF, if_true, if_false, not_true, not_false_eq_true, pk_div, pk_rem, Nat.reduceEqDiff, Nat.reduceLeDiff, Nat.reduceLT, Nat.reduceAdd, Nat.reduceMul, Nat.reduceSub, Nat.not_lt_zero, Nat.zero_le, reduceCtorEq, ite_self, n_rem, and_self, and_true, true_and, and_false, false_and, sp_houC_t, q1, c, k1 (show 0 < (rdA A F00).1 by omega) i hi]
      · intro I J T mI _
        obtain ⟨I1, f1, k1, q1⟩ := sp_rdM (sc := sc) (d := d + 8) (J := J) (T := T) wA mI.1
        refine ⟨I1, J, ⟨fun c k hc => f1 c k (by omega), fun k hk => f1 _ _ (by omega)⟩, MI_c mI (fun c k hc => f1 c k (by omega)) (f1 _ _ (by omega)), fun Q => ?_⟩
        simp (disch := first | assumption | omega | decide) only [x283_0, x283_1, x283_2, x283_3, x283_4, x283_5, x283_6, x283_7, x283_8, x283_9, x283_10, x283_11, x283_12, ↓reduceIte, Option.toList, List.nil_append, List.cons_append, nI_add, pk_mul, n_and, n_or, n_xor, nI_leI, nI_ltI, nI_eq, n_z, uI_s, uI_n, bI_n0, bI_n1, bT, bF, if_true, if_false, not_true, not_false_eq_true, pk_div, pk_rem, Nat.reduceEqDiff, Nat.reduceLeDiff, Nat.reduceLT, Nat.reduceAdd, Nat.reduceMul, Nat.reduceSub, Nat.not_lt_zero, Nat.zero_le, reduceCtorEq, ite_self, n_rem, and_self, and_true, true_and, and_false, false_and, sp_houM_t, q1, c', k1 (show 0 < (rdA A F00).1 by omega) i hi]
  · refine jtR w' (-2) ?_ ?_ <;> intro I J T Q hI
    · simp (disch := first | assumption | omega | decide) only [x142_0, x142_1, x142_2, x142_3, x142_4, x142_5, x142_6, x142_7, x142_8, x142_9, x142_10, x142_11, x142_12, x142_13, x142_14, ↓reduceIte, Option.toList, List.nil_append, List.cons_append, nI_add, pk_mul, n_and, n_or, n_xor, nI_leI, nI_ltI, nI_eq, n_z, uI_s, uI_n, bI_n0, bI_n1, bT, bF, if_true, if_false, not_true, not_false_eq_true, pk_div, pk_rem, Nat.reduceEqDiff, Nat.reduceLeDiff, Nat.reduceLT, Nat.reduceAdd, Nat.reduceMul, Nat.reduceSub, Nat.not_lt_zero, Nat.zero_le, reduceCtorEq, ite_self, n_rem, and_self, and_true, true_and, and_false, false_and, sp_houC_f hx]
    · simp (disch := first | assumption | omega | decide) only [x283_0, x283_1, x283_2, x283_3, x283_4, x283_5, x283_6, x283_7, x283_8, x283_9, x283_10, x283_11, x283_12, ↓reduceIte, Option.toList, List.nil_append, List.cons_append, nI_add, pk_mul, n_and, n_or, n_xor, nI_leI, nI_ltI, nI_eq, n_z, uI_s, uI_n, bI_n0, bI_n1, bT, bF, if_true, if_false, not_true, not_false_eq_true, pk_div, pk_rem, Nat.reduceEqDiff, Nat.reduceLeDiff, Nat.reduceLT, Nat.reduceAdd, Nat.reduceMul, Nat.reduceSub, Nat.not_lt_zero, Nat.zero_le, reduceCtorEq, ite_self, n_rem, and_self, and_true, true_and, and_false, false_and, sp_houM_f hx]
end Rounds2
