/-! colours of the reference; colour -/
section ColM
variable {sc : Sc} {d : Nat} {J : Nat → Nat → Int64} {T : Option Nat} {A : Nat → Nat}
theorem lf_C {I : Nat → Nat → Int32} {n l : Nat} {m : Int64} {u : Option Value} {r : Nat → Nat} (hp : ∀ i, i < 8 → I 100 i = nI (r i)) : ∃ I', (∀ i, i < 8 → I' 101 i = nI (r i)) ∧ (∀ c j, c ≠ 101 → I' c j = I c j) ∧ ∀ Q, Rn sc d 279 48 [some (.ref 89), some (.int (nI n)), some (.long m), none, some (.int (nI l)), u] [] (K0, I, J, R1 T) Q = Rn sc d 279 63 [some (.ref 89), some (.int (nI n)), some (.long m), none, some (.int (nI l)), some (.int (nI 8))] [] (K0, I', J, R1 T) Q := by
  obtain ⟨I', ⟨h1, h2⟩, h3⟩ := iterE (fun j I' => (∀ i, i < j → I' 101 i = nI (r i)) ∧ ∀ c j, c ≠ 101 → I' c j = I c j) (fun j I' => fun Q => Rn sc d 279 50 [some (.ref 89), some (.int (nI n)), some (.long m), none, some (.int (nI l)), some (.int (nI j))] [] (K0, I', J, R1 T) Q) 8 (by
    rintro j I1 hj ⟨k1, f1⟩
    have lj : ¬ 8 ≤ j := by omega
    have e0 : I1 100 j = nI (r j) := (f1 _ _ (by omega)).trans (hp j hj)
    refine ⟨uI I1 101 j (nI (r j)), ⟨fun i hi => ?_, fun c k hc => (uI_n (by omega)).trans (f1 c k hc)⟩, funext fun Q => ?_⟩
    · by_cases e : i = j
      · rw [e, uI_s]
      · rw [uI_n (by omega)]
        exact k1 i (by omega)
    · show Rn _ _ _ _ _ _ _ _ = Rn _ _ _ _ _ _ _ _
      rw [x279_50]
      simp (disch := first | assumption | omega | decide) only [x279_51, x279_52, x279_53, x279_54, x279_55, x279_56, x279_57, x279_58, x279_59, x279_60, x279_61, x279_62, ↓reduceIte, Option.toList, List.nil_append, List.cons_append, nI_add, pk_mul, n_and, n_or, n_xor, nI_leI, nI_ltI, nI_eq, n_z, uI_s, uI_n, bI_n0, bI_n1, bT, bF, if_true, if_false, not_true, not_false_eq_true, pk_div, pk_rem, Nat.reduceEqDiff, Nat.reduceLeDiff, Nat.reduceLT, Nat.reduceAdd, Nat.reduceMul, Nat.reduceSub, Nat.not_lt_zero, Nat.zero_le, reduceCtorEq, ite_self, n_rem, and_self, and_true, true_and, and_false, false_and, lj, e0]) I ⟨fun i hi => by omega, fun _ _ _ => rfl⟩
  refine ⟨I', h1, h2, fun Q => ?_⟩
  have h3' := congrFun h3 Q
  simp (disch := first | assumption | omega | decide) only [x279_48, x279_49, ↓reduceIte, Option.toList, List.nil_append, List.cons_append, nI_add, pk_mul, n_and, n_or, n_xor, nI_leI, nI_ltI, nI_eq, n_z, uI_s, uI_n, bI_n0, bI_n1, bT, bF, if_true, if_false, not_true, not_false_eq_true, pk_div, pk_rem, Nat.reduceEqDiff, Nat.reduceLeDiff, Nat.reduceLT, Nat.reduceAdd, Nat.reduceMul, Nat.reduceSub, Nat.not_lt_zero, Nat.zero_le, reduceCtorEq, ite_self, n_rem, and_self, and_true, true_and, and_false, false_and]
  refine Eq.trans h3' ?_
  show Rn _ _ _ _ _ _ _ _ = _
  rw [x279_50]
  simp (disch := first | assumption | omega | decide) only [x279_51, x279_52, ↓reduceIte, Option.toList, List.nil_append, List.cons_append, nI_add, pk_mul, n_and, n_or, n_xor, nI_leI, nI_ltI, nI_eq, n_z, uI_s, uI_n, bI_n0, bI_n1, bT, bF, if_true, if_false, not_true, not_false_eq_true, pk_div, pk_rem, Nat.reduceEqDiff, Nat.reduceLeDiff, Nat.reduceLT, Nat.reduceAdd, Nat.reduceMul, Nat.reduceSub, Nat.not_lt_zero, Nat.zero_le, reduceCtorEq, ite_self, n_rem, and_self, and_true, true_and, and_false, false_and, Nat.le_refl]
def LvC (sc : Sc) (d : Nat) (A : Nat → Nat) (J : Nat → Nat → Int64) (T : Option Nat) (n m : Nat) : Prop := ∀ (k : Nat) (r : Nat → Nat) (I : Nat → Nat → Int32) (s : Nat × (Nat → Int32)) (u : Option Value), k + m = 7 → (∀ i, i < k → r i < 4) → AtM I 90 A → (∀ i, i < k → I 100 i = nI (r i)) → I 100 k = -1 → (∀ i, i < 8 → I 101 i = s.2 i) → s.1 + n ^ (m + 1) ≤ 2 ^ 30 → ∃ (I' : Nat → Nat → Int32) (u' : Option Value), (∀ c j, c ≠ 100 ∧ c ≠ 101 → I' c j = I c j) ∧ (∀ i, i < k → I' 100 i = nI (r i)) ∧ (∀ i, i < 8 → I' 101 i = (btA n (okC A) (m + 1) k r s).2 i) ∧ ∀ Q, Rn sc (d + 2) 279 9 [some (.ref 89), some (.int (nI n)), some (.long (lN s.1)), none, some (.int (nI k)), u] [] (K0, I, J, R1 T) Q = Rn sc (d + 2) 279 9 [some (.ref 89), some (.int (nI n)), some (.long (lN (btA n (okC A) (m + 1) k r s).1)), none, some (.int (enB k)), u'] [] (K0, I', J, R1 T) Q
theorem lv_C {n m : Nat} (hn : n ≤ 4) (w : Wf A) (H : ∀ p, p + 1 = m → LvC sc d A J T n p) : LvC sc d A J T n m := by
  intro k r I s u hk hr mA hp h0 hF hb
  have lk : k < 8 := by omega
  rw [bt_s]
  obtain ⟨⟨I', u'⟩, ⟨h1, h2, h4, h5⟩, h3⟩ := iterE (St := (Nat → Nat → Int32) × Option Value) (fun h t => (∀ c j, c ≠ 100 ∧ c ≠ 101 → t.1 c j = I c j) ∧ (∀ i, i < k → t.1 100 i = nI (r i)) ∧ t.1 100 k = enB h ∧ (∀ i, i < 8 → t.1 101 i = (foldS (chB n (okC A) m k r) s h).2 i)) (fun h t => fun Q => Rn sc (d + 2) 279 9 [some (.ref 89), some (.int (nI n)), some (.long (lN (foldS (chB n (okC A) m k r) s h).1)), none, some (.int (nI k)), t.2] [] (K0, t.1, J, R1 T) Q) n (by
    rintro h ⟨I1, u1⟩ hh ⟨f1, p1, z1, g1⟩
    have f1 : ∀ c j, c ≠ 100 ∧ c ≠ 101 → I1 c j = I c j := f1
    have p1 : ∀ i, i < k → I1 100 i = nI (r i) := p1
    have z1 : I1 100 k = enB h := z1
    rw [foldS_s]
    obtain ⟨t, et⟩ : ∃ t, t = foldS (chB n (okC A) m k r) s h := ⟨_, rfl⟩
    have hb1 := fd_b (ok := okC A) (k := k) (r := r) hh hb
    have g2' : ∀ i, i < 8 → I1 101 i = t.2 i := fun i hi => by rw [et]; exact g1 i hi
    rw [← et] at hb1 ⊢
    have hne : ¬ h = n := by omega
    have h4 : h < 4 := by omega
    obtain ⟨I2, eI⟩ : ∃ X, X = uI I1 100 k (nI h) := ⟨_, rfl⟩
    have f2 : ∀ c j, c ≠ 100 ∧ c ≠ 101 → I2 c j = I c j := fun c j hc => by rw [eI, uI_n (by omega)]; exact f1 c j hc
    have p2 : ∀ i, i < k → I2 100 i = nI (r i) := fun i hi => by rw [eI, uI_n (by omega)]; exact p1 i hi
    have z2 : I2 100 k = nI h := by rw [eI, uI_s]
    have g2 : ∀ i, i < 8 → I2 101 i = t.2 i := fun i hi => by rw [eI, uI_n (by omega)]; exact g2' i hi
    have mA2 : AtM I2 90 A := AtM_c mA (fun k => f2 _ _ (by omega))
    have df := sp_unlikeM (sc := sc) (d := d) (J := J) (T := T) lk w mA2 (fun i hi => ⟨p2 i hi, hr i hi⟩) z2 h4 k 0 (by omega) rfl
    have df0 : ∀ Q, Rn sc (d + 1) 278 0 [some (.ref 89), some (.int (nI k)), none] [] (K0, I2, J, R1 T) Q = Q (some (.int (bI (okC A k r h)))) (K0, I2, J, R1 T) := by
      intro Q
      rw [← df Q]
      simp (disch := first | assumption | omega | decide) only [x278_0, x278_1]
    have q0 : ∀ Q, Rn sc (d + 2) 279 9 [some (.ref 89), some (.int (nI n)), some (.long (lN t.1)), none, some (.int (nI k)), u1] [] (K0, I1, J, R1 T) Q = Rn sc (d + 2) 279 27 [some (.ref 89), some (.int (nI n)), some (.long (lN t.1)), none, some (.int (nI k)), u1] [] (K0, I2, J, R1 T) Q := by
      intro Q
      rw [eI, x279_9]
      simp (disch := first | assumption | omega | decide) only [x279_10, x279_11, x279_12, x279_13, x279_14, x279_15, x279_16, x279_17, x279_18, x279_19, x279_20, x279_21, x279_22, x279_23, x279_24, ↓reduceIte, Option.toList, List.nil_append, List.cons_append, nI_add, pk_mul, n_and, n_or, n_xor, nI_leI, nI_ltI, nI_eq, n_z, uI_s, uI_n, bI_n0, bI_n1, bT, bF, if_true, if_false, not_true, not_false_eq_true, pk_div, pk_rem, Nat.reduceEqDiff, Nat.reduceLeDiff, Nat.reduceLT, Nat.reduceAdd, Nat.reduceMul, Nat.reduceSub, Nat.not_lt_zero, Nat.zero_le, reduceCtorEq, ite_self, n_rem, and_self, and_true, true_and, and_false, false_and, z1, en_p, hne]
    unfold chB
    by_cases c : okC A k r h
    · rw [if_pos c]
      rw [bI_t c] at df0
      by_cases cn : m = 0
      · subst cn
        rw [bt_0]
        have kk : 8 ≤ k + 1 := by omega
        have pf : ∀ i, i < 8 → I2 100 i = nI (upA r k h i) := fun i hi => by
          by_cases e : i = k
          · rw [e, upA_s]; exact z2
          · rw [upA_n e]; exact p2 i (by omega)
        by_cases c0 : t.1 = 0
        · obtain ⟨I3, k3, f3, q3⟩ := lf_C (sc := sc) (d := d + 2) (J := J) (T := T) (n := n) (m := lN t.1) (l := k) (u := u1) pf
          refine ⟨(I3, some (.int (nI 8))), ⟨fun c j hc => (f3 c j hc.2).trans (f2 c j hc), fun i hi => (f3 _ _ (by decide)).trans (p2 i hi), (f3 _ _ (by decide)).trans z2, fun i hi => ?_⟩, funext fun Q => ?_⟩
          · show I3 101 i = (if t.1 = 0 then fun i => nI (upA r k h i) else t.2) i
            rw [if_pos c0]
            exact k3 i hi
          · show Rn _ _ _ _ _ _ _ _ = Rn _ _ _ _ _ _ _ _
            rw [q0]
            rw [c0] at q3 ⊢
            simp (disch := first | assumption | omega | decide) only [x279_27, x279_28, x279_29, x279_30, x279_31, x279_32, x279_33, x279_34, x279_35, x279_36, x279_44, x279_45, x279_46, x279_47, ↓reduceIte, Option.toList, List.nil_append, List.cons_append, nI_add, pk_mul, n_and, n_or, n_xor, nI_leI, nI_ltI, nI_eq, n_z, uI_s, uI_n, bI_n0, bI_n1, bT, bF, if_true, if_false, not_true, not_false_eq_true, pk_div, pk_rem, Nat.reduceEqDiff, Nat.reduceLeDiff, Nat.reduceLT, Nat.reduceAdd, Nat.reduceMul, Nat.reduceSub, Nat.not_lt_zero, Nat.zero_le, reduceCtorEq, ite_self, n_rem, and_self, and_true, true_and, and_false, false_and, df0, kk, lc_z, q3]
            simp (disch := first | assumption | omega | decide) only [x279_63, x279_64, x279_65, x279_66, x279_67, ↓reduceIte, Option.toList, List.nil_append, List.cons_append, nI_add, pk_mul, n_and, n_or, n_xor, nI_leI, nI_ltI, nI_eq, n_z, uI_s, uI_n, bI_n0, bI_n1, bT, bF, if_true, if_false, not_true, not_false_eq_true, pk_div, pk_rem, Nat.reduceEqDiff, Nat.reduceLeDiff, Nat.reduceLT, Nat.reduceAdd, Nat.reduceMul, Nat.reduceSub, Nat.not_lt_zero, Nat.zero_le, reduceCtorEq, ite_self, n_rem, and_self, and_true, true_and, and_false, false_and, lN_1]
        · have lt : t.1 < 2 ^ 31 := by omega
          refine ⟨(I2, u1), ⟨f2, p2, z2, fun i hi => ?_⟩, funext fun Q => ?_⟩
          · show I2 101 i = (if t.1 = 0 then fun i => nI (upA r k h i) else t.2) i
            rw [if_neg c0]
            exact g2 i hi
          · show Rn _ _ _ _ _ _ _ _ = Rn _ _ _ _ _ _ _ _
            rw [q0]
            simp (disch := first | assumption | omega | decide) only [x279_27, x279_28, x279_29, x279_30, x279_31, x279_32, x279_33, x279_34, x279_35, x279_36, x279_44, x279_45, x279_46, x279_47, ↓reduceIte, Option.toList, List.nil_append, List.cons_append, nI_add, pk_mul, n_and, n_or, n_xor, nI_leI, nI_ltI, nI_eq, n_z, uI_s, uI_n, bI_n0, bI_n1, bT, bF, if_true, if_false, not_true, not_false_eq_true, pk_div, pk_rem, Nat.reduceEqDiff, Nat.reduceLeDiff, Nat.reduceLT, Nat.reduceAdd, Nat.reduceMul, Nat.reduceSub, Nat.not_lt_zero, Nat.zero_le, reduceCtorEq, ite_self, n_rem, and_self, and_true, true_and, and_false, false_and, df0, kk, lc_p (show 0 < t.1 by omega) lt]
            simp (disch := first | assumption | omega | decide) only [x279_63, x279_64, x279_65, x279_66, x279_67, ↓reduceIte, Option.toList, List.nil_append, List.cons_append, nI_add, pk_mul, n_and, n_or, n_xor, nI_leI, nI_ltI, nI_eq, n_z, uI_s, uI_n, bI_n0, bI_n1, bT, bF, if_true, if_false, not_true, not_false_eq_true, pk_div, pk_rem, Nat.reduceEqDiff, Nat.reduceLeDiff, Nat.reduceLT, Nat.reduceAdd, Nat.reduceMul, Nat.reduceSub, Nat.not_lt_zero, Nat.zero_le, reduceCtorEq, ite_self, n_rem, and_self, and_true, true_and, and_false, false_and, lN_1]
      · obtain ⟨p, rfl⟩ : ∃ p, m = p + 1 := ⟨m - 1, by omega⟩
        have kk : ¬ 8 ≤ k + 1 := by omega
        have k8 : k + 1 < 8 := by omega
        obtain ⟨I3, u3, f3, p3, g3, q3⟩ := H p rfl (k + 1) (upA r k h) (uI I2 100 (k + 1) (-1)) t u1 (by omega) (fun i hi => by
            by_cases e : i = k
            · rw [upA_e e]; exact h4
            · rw [upA_n e]; exact hr i (by omega)) (AtM_c mA2 (fun k => uI_n (by omega))) (fun i hi => by
            rw [uI_n (by omega)]
            by_cases e : i = k
            · rw [e, upA_s]; exact z2
            · rw [upA_n e]; exact p2 i (by omega)) uI_s (fun i hi => (uI_n (by omega)).trans (g2 i hi)) hb1
        rw [enB_s] at q3
        have z3 : I3 100 k = nI h := by rw [p3 k (by omega), upA_s]
        refine ⟨(I3, u3), ⟨fun c j hc => (f3 c j hc).trans ((uI_n (by omega)).trans (f2 c j hc)), fun i hi => (p3 i (by omega)).trans (congrArg nI (upA_n (by omega))), z3, g3⟩, funext fun Q => ?_⟩
        show Rn _ _ _ _ _ _ _ _ = Rn _ _ _ _ _ _ _ _
        rw [q0, ← q3]
        simp (disch := first | assumption | omega | decide) only [x279_27, x279_28, x279_29, x279_30, x279_31, x279_32, x279_33, x279_34, x279_35, x279_36, x279_37, x279_38, x279_39, x279_40, x279_41, x279_42, x279_43, ↓reduceIte, Option.toList, List.nil_append, List.cons_append, nI_add, pk_mul, n_and, n_or, n_xor, nI_leI, nI_ltI, nI_eq, n_z, uI_s, uI_n, bI_n0, bI_n1, bT, bF, if_true, if_false, not_true, not_false_eq_true, pk_div, pk_rem, Nat.reduceEqDiff, Nat.reduceLeDiff, Nat.reduceLT, Nat.reduceAdd, Nat.reduceMul, Nat.reduceSub, Nat.not_lt_zero, Nat.zero_le, reduceCtorEq, ite_self, n_rem, and_self, and_true, true_and, and_false, false_and, df0, kk]
    · rw [if_neg c]
      rw [bI_f c] at df0
      refine ⟨(I2, u1), ⟨f2, p2, z2, g2⟩, funext fun Q => ?_⟩
      show Rn _ _ _ _ _ _ _ _ = Rn _ _ _ _ _ _ _ _
      rw [q0]
      simp (disch := first | assumption | omega | decide) only [x279_27, x279_28, x279_29, x279_30, x279_31, ↓reduceIte, Option.toList, List.nil_append, List.cons_append, nI_add, pk_mul, n_and, n_or, n_xor, nI_leI, nI_ltI, nI_eq, n_z, uI_s, uI_n, bI_n0, bI_n1, bT, bF, if_true, if_false, not_true, not_false_eq_true, pk_div, pk_rem, Nat.reduceEqDiff, Nat.reduceLeDiff, Nat.reduceLT, Nat.reduceAdd, Nat.reduceMul, Nat.reduceSub, Nat.not_lt_zero, Nat.zero_le, reduceCtorEq, ite_self, n_rem, and_self, and_true, true_and, and_false, false_and, df0]) (I, u) ⟨fun _ _ _ => rfl, hp, h0, hF⟩
  have h4 : I' 100 k = enB n := h4
  refine ⟨uI I' 100 k (nI n), u', fun c j hc => (uI_n (by omega)).trans (h1 c j hc), fun i hi => by rw [uI_n (by omega)]; exact h2 i hi, fun i hi => by rw [uI_n (by omega)]; exact h5 i hi, fun Q => ?_⟩
  refine Eq.trans (congrFun h3 Q) ?_
  show Rn _ _ _ _ _ _ _ _ = _
  rw [x279_9]
  simp (disch := first | assumption | omega | decide) only [x279_10, x279_11, x279_12, x279_13, x279_14, x279_15, x279_16, x279_17, x279_18, x279_19, x279_20, x279_21, x279_22, x279_23, x279_24, x279_25, x279_26, ↓reduceIte, Option.toList, List.nil_append, List.cons_append, nI_add, pk_mul, n_and, n_or, n_xor, nI_leI, nI_ltI, nI_eq, n_z, uI_s, uI_n, bI_n0, bI_n1, bT, bF, if_true, if_false, not_true, not_false_eq_true, pk_div, pk_rem, Nat.reduceEqDiff, Nat.reduceLeDiff, Nat.reduceLT, Nat.reduceAdd, Nat.reduceMul, Nat.reduceSub, Nat.not_lt_zero, Nat.zero_le, reduceCtorEq, ite_self, n_rem, and_self, and_true, true_and, and_false, false_and, h4, en_p, lv_m (show k ≤ 8 by omega)]
theorem lvc_all {n : Nat} (hn : n ≤ 4) (w : Wf A) : ∀ m, LvC sc d A J T n m
  | 0 => lv_C hn w (fun p hp => by omega)
  | m + 1 => lv_C hn w (fun p hp => by
      obtain rfl : p = m := by omega
      exact lvc_all hn w p)
def clA (A : Nat → Nat) (n : Nat) (F : Nat → Int32) : Nat × (Nat → Int32) := btA n (okC A) 8 0 (fun _ => 0) (0, F)
theorem cl_i {A : Nat → Nat} {n : Nat} {F F' : Nat → Int32} : (clA A n F).1 = (clA A n F').1 ∧ (0 < (clA A n F).1 → (clA A n F).2 = (clA A n F').2) := bt_i (B := n) (ok := okC A) 8 0 (fun _ => 0) (0, F) (0, F') rfl (fun h => absurd h (Nat.lt_irrefl 0))
theorem p4_8 : ∀ n, n ≤ 4 → 0 + n ^ 8 ≤ 2 ^ 16 := by
  intro n hn
  have := Nat.pow_le_pow_left hn 8
  omega
theorem cl_le {A : Nat → Nat} {n : Nat} {F : Nat → Int32} (hn : n ≤ 4) : (clA A n F).1 ≤ 2 ^ 16 := Nat.le_trans (bt_le (B := n) (ok := okC A) 8 0 (fun _ => 0) (0, F)).2 (p4_8 n hn)
theorem sp_clM {I : Nat → Nat → Int32} {n : Nat} (hn : n ≤ 4) (w : Wf A) (mA : AtM I 90 A) : ∃ I', (∀ c j, c ≠ 100 ∧ c ≠ 101 → I' c j = I c j) ∧ (0 < (clA A n F00).1 → ∀ i, i < 8 → I' 101 i = (clA A n F00).2 i) ∧ ∀ Q, Rn sc (d + 2) 279 0 [some (.ref 89), some (.int (nI n)), none, none, none, none] [] (K0, I, J, R1 T) Q = Q (some (.long (lN (clA A n F00).1))) (K0, I', J, R1 T) := by
  obtain ⟨I1, u1, f1, p1, g1, q1⟩ := lvc_all (sc := sc) (d := d) (J := J) (T := T) hn w 7 0 (fun _ => 0) (uI I 100 0 (-1)) (0, fun i => I 101 i) none rfl (fun i hi => by omega) (AtM_c mA (fun k => uI_n (by omega))) (fun i hi => by omega) uI_s (fun i hi => uI_n (by omega)) (Nat.le_trans (p4_8 n hn) (by decide))
  have e1 : (btA n (okC A) (7 + 1) 0 (fun _ => 0) (0, fun i => I 101 i)).1 = (clA A n F00).1 := (cl_i (F := fun i => I 101 i)).1
  rw [e1, enB_0] at q1
  refine ⟨I1, fun c j hc => (f1 c j hc).trans (uI_n (by omega)), fun hp i hi => ?_, fun Q => ?_⟩
  · rw [g1 i hi]
    exact congrFun ((cl_i (F := fun i => I 101 i)).2 (by rw [show (clA A n (fun i => I 101 i)).1 = _ from e1]; exact hp)) i
  · have q1 : Rn sc (d + 2) 279 9 [some (.ref 89), some (.int (nI n)), some (.long (lN 0)), none, some (.int (nI 0)), none] [] (K0, uI I 100 0 (-1), J, R1 T) Q = _ := q1 Q
    simp (disch := first | assumption | omega | decide) only [x279_0, x279_1, x279_2, x279_3, x279_4, x279_5, x279_6, x279_7, x279_8, ↓reduceIte, Option.toList, List.nil_append, List.cons_append, nI_add, pk_mul, n_and, n_or, n_xor, nI_leI, nI_ltI, nI_eq, n_z, uI_s, uI_n, bI_n0, bI_n1, bT, bF, if_true, if_false, not_true, not_false_eq_true, pk_div, pk_rem, Nat.reduceEqDiff, Nat.reduceLeDiff, Nat.reduceLT, Nat.reduceAdd, Nat.reduceMul, Nat.reduceSub, Nat.not_lt_zero, Nat.zero_le, reduceCtorEq, ite_self, n_rem, and_self, and_true, true_and, and_false, false_and, show (0 : Int64) = lN 0 from rfl]
    rw [q1, x279_9]
    simp (disch := first | assumption | omega | decide) only [x279_10, x279_68, x279_69, ↓reduceIte, Option.toList, List.nil_append, List.cons_append, nI_add, pk_mul, n_and, n_or, n_xor, nI_leI, nI_ltI, nI_eq, n_z, uI_s, uI_n, bI_n0, bI_n1, bT, bF, if_true, if_false, not_true, not_false_eq_true, pk_div, pk_rem, Nat.reduceEqDiff, Nat.reduceLeDiff, Nat.reduceLT, Nat.reduceAdd, Nat.reduceMul, Nat.reduceSub, Nat.not_lt_zero, Nat.zero_le, reduceCtorEq, ite_self, n_rem, and_self, and_true, true_and, and_false, false_and, show ((-1 : Int32) < nI 0) = True from eq_true (by decide)]
end ColM
section Colour2
variable {TX : (Nat → Nat → Int32) → Nat → Prop} {sc : Sc} {d : Nat}
theorem jt_colour {x y : Int32} : Jt TX sc (d + 12) 141 281 [some (.ref 0), some (.int x), some (.int y)] [some (.ref 89), some (.int x), some (.int y)] := by
  intro A B M w _
  have w' := w
  obtain ⟨wA, wB, wt⟩ := w
  have en : (∃ n, 1 ≤ n ∧ n ≤ 4 ∧ x = nI n) ∨ bI (nI 1 ≤ x ∧ x ≤ nI 4) = nI 0 := by
    by_cases hx : inR x 5
    · obtain ⟨n, hn, rfl⟩ := hx
      by_cases hn0 : n = 0
      · subst hn0
        exact Or.inr (in_l (by omega) (by omega))
      · exact Or.inl ⟨n, by omega, by omega, rfl⟩
    · right
      rw [bI_f]
      rintro ⟨h1, h2⟩
      have := nr_f hx (by decide)
      rw [← this]
      exact ⟨Int32.le_trans (by decide) h1, h2⟩
  rcases en with ⟨n, hn1, hn4, rfl⟩ | en
  · by_cases hy : inR y 8
    · obtain ⟨i, hi, rfl⟩ := hy
      have le := cl_le (A := A) (n := n) (F := F00) hn4
      by_cases c : 0 < (clA A n F00).1
      · have l1 := lc_p c (show (clA A n F00).1 < 2 ^ 31 by omega)
        refine ⟨(clA A n F00).2 i, A, B, w', Nat.le_refl _, ?_, ?_⟩
        · intro I J T cI _
          obtain ⟨I1, f1, p1, g1, q1⟩ := tf_C (sc := sc) (d := d) (J := J) (T := T) hn4 wA 8 0 (fun _ => 0) I rfl (BsC_of cI) (fun i hi => by omega)
          have q1 : ∀ Q, Rn sc (d + 10) 76 0 [some (.ref 72), some (.int (nI 0)), some (.int (nI n)), none] [] (K0, I, J, R1 T) Q = Q (some (.int (bI (0 < (clA A n F00).1)))) (K0, I1, J, R1 T) := q1
          rw [bI_t c] at q1
          have gi : I1 79 i = (clA A n F00).2 i := g1 c i hi
          refine ⟨I1, fun c k hc => f1 c k (by omega), CI_c w' cI (fun c k hc => f1 c k (by omega)), fun Q => ?_⟩
          simp (disch := first | assumption | omega | decide) only [x141_0, x141_1, x141_2, x141_3, x141_4, x141_5, x141_6, x141_7, x141_8, x141_9, x141_10, x141_11, x141_12, x141_13, x141_14, x141_15, x141_16, x141_17, x141_18, x141_19, x141_20, x75_0, x75_1, x75_2, x75_3, x75_4, ↓reduceIte, Option.toList, List.nil_append, List.cons_append, nI_add, pk_mul, n_and, n_or, n_xor, nI_leI, nI_ltI, nI_eq, n_z, uI_s, uI_n, bI_n0, bI_n1, bT, bF, if_true, if_false, not_true, not_false_eq_true, pk_div, pk_rem, Nat.reduceEqDiff, Nat.reduceLeDiff, Nat.reduceLT, Nat.reduceAdd, Nat.reduceMul, Nat.reduceSub, Nat.not_lt_zero, Nat.zero_le, reduceCtorEq, ite_self, n_rem, and_self, and_true, true_and, and_false, false_and, sp_isWithin, ↓in_t, sp_houC_t, q1, gi]
        · intro I J T mI _
          obtain ⟨I1, f1, k1, q1⟩ := sp_clM (sc := sc) (d := d + 9) (J := J) (T := T) hn4 wA mI.1
          refine ⟨I1, J, ⟨fun c k hc => f1 c k (by omega), fun k hk => f1 _ _ (by omega)⟩, MI_c mI (fun c k hc => f1 c k (by omega)) (f1 _ _ (by omega)), fun Q => ?_⟩
          have gi := k1 c i hi
          simp (disch := first | assumption | omega | decide) only [x281_0, x281_1, x281_2, x281_3, x281_4, x281_5, x281_6, x281_7, x281_8, x281_9, x281_10, x281_11, x281_12, x281_13, x281_14, x281_15, x281_16, x281_17, x281_18, x281_19, x281_20, ↓reduceIte, Option.toList, List.nil_append, List.cons_append, nI_add, pk_mul, n_and, n_or, n_xor, nI_leI, nI_ltI, nI_eq, n_z, uI_s, uI_n, bI_n0, bI_n1, bT, bF, if_true, if_false, not_true, not_false_eq_true, pk_div, pk_rem, Nat.reduceEqDiff, Nat.reduceLeDiff, Nat.reduceLT, Nat.reduceAdd, Nat.reduceMul, Nat.reduceSub, Nat.not_lt_zero, Nat.zero_le, reduceCtorEq, ite_self, n_rem, and_self, and_true, true_and, and_false, false_and, sp_isIn, ↓in_t, sp_houM_t, q1, l1, gi]
      · have c0 : (clA A n F00).1 = 0 := by omega
        refine ⟨-2, A, B, w', Nat.le_refl _, ?_, ?_⟩
        · intro I J T cI _
          obtain ⟨I1, f1, p1, g1, q1⟩ := tf_C (sc := sc) (d := d) (J := J) (T := T) hn4 wA 8 0 (fun _ => 0) I rfl (BsC_of cI) (fun i hi => by omega)
          have q1 : ∀ Q, Rn sc (d + 10) 76 0 [some (.ref 72), some (.int (nI 0)), some (.int (nI n)), none] [] (K0, I, J, R1 T) Q = Q (some (.int (bI (0 < (clA A n F00).1)))) (K0, I1, J, R1 T) := q1
          rw [bI_f c] at q1
          refine ⟨I1, fun c k hc => f1 c k (by omega), CI_c w' cI (fun c k hc => f1 c k (by omega)), fun Q => ?_⟩
          simp (disch := first | assumption | omega | decide) only [x141_0, x141_1, x141_2, x141_3, x141_4, x141_5, x141_6, x141_7, x141_8, x141_9, x141_10, x141_11, x141_12, x141_13, x141_14, x141_15, x141_16, x141_17, x141_18, x141_19, x141_20, x75_0, x75_1, x75_2, x75_3, x75_4, ↓reduceIte, Option.toList, List.nil_append, List.cons_append, nI_add, pk_mul, n_and, n_or, n_xor, nI_leI, nI_ltI, nI_eq, n_z, uI_s, uI_n, bI_n0, bI_n1, bT, bF, if_true, if_false, not_true, not_false_eq_true, pk_div, pk_rem, Nat.reduceEqDiff, Nat.reduceLeDiff, Nat.reduceLT, Nat.reduceAdd, Nat.reduceMul, Nat.reduceSub, Nat.not_lt_zero, Nat.zero_le, reduceCtorEq, ite_self, n_rem, and_self, and_true, true_and, and_false, false_and, sp_isWithin, ↓in_t, sp_houC_t, q1]
        · intro I J T mI _
          obtain ⟨I1, f1, k1, q1⟩ := sp_clM (sc := sc) (d := d + 9) (J := J) (T := T) hn4 wA mI.1
          rw [c0] at q1
          refine ⟨I1, J, ⟨fun c k hc => f1 c k (by omega), fun k hk => f1 _ _ (by omega)⟩, MI_c mI (fun c k hc => f1 c k (by omega)) (f1 _ _ (by omega)), fun Q => ?_⟩
          simp (disch := first | assumption | omega | decide) only [x281_0, x281_1, x281_2, x281_3, x281_4, x281_5, x281_6, x281_7, x281_8, x281_9, x281_10, x281_11, x281_12, x281_13, x281_14, x281_15, x281_16, x281_17, x281_18, x281_19, x281_20, ↓reduceIte, Option.toList, List.nil_append, List.cons_append, nI_add, pk_mul, n_and, n_or, n_xor, nI_leI, nI_ltI, nI_eq, n_z, uI_s, uI_n, bI_n0, bI_n1, bT, bF, if_true, if_false, not_true, not_false_eq_true, pk_div, pk_rem, Nat.reduceEqDiff, Nat.reduceLeDiff, Nat.reduceLT, Nat.reduceAdd, Nat.reduceMul, Nat.reduceSub, Nat.not_lt_zero, Nat.zero_le, reduceCtorEq, ite_self, n_rem, and_self, and_true, true_and, and_false, false_and, sp_isIn, ↓in_t, sp_houM_t, q1, lc_z, Nat.le_refl]
    · refine jtR w' (-2) ?_ ?_ <;> intro I J T Q hI
      · simp (disch := first | assumption | omega | decide) only [x141_0, x141_1, x141_2, x141_3, x141_4, x141_5, x141_6, x141_7, x141_8, x141_9, x141_10, x141_11, x141_12, x141_13, x141_14, x141_15, x141_16, x141_17, x141_18, x141_19, x141_20, ↓reduceIte, Option.toList, List.nil_append, List.cons_append, nI_add, pk_mul, n_and, n_or, n_xor, nI_leI, nI_ltI, nI_eq, n_z, uI_s, uI_n, bI_n0, bI_n1, bT, bF, if_true, if_false, not_true, not_false_eq_true, pk_div, pk_rem, Nat.reduceEqDiff, Nat.reduceLeDiff, Nat.reduceLT, Nat.reduceAdd, Nat.reduceMul, Nat.reduceSub, Nat.not_lt_zero, Nat.zero_le, reduceCtorEq, ite_self, n_rem, and_self, and_true, true_and, and_false, false_and, sp_isWithin, ↓in_t, sp_houC_f hy]
      · simp (disch := first | assumption | omega | decide) only [x281_0, x281_1, x281_2, x281_3, x281_4, x281_5, x281_6, x281_7, x281_8, x281_9, x281_10, x281_11, x281_12, x281_13, x281_14, x281_15, x281_16, x281_17, x281_18, x281_19, x281_20, ↓reduceIte, Option.toList, List.nil_append, List.cons_append, nI_add, pk_mul, n_and, n_or, n_xor, nI_leI, nI_ltI, nI_eq, n_z, uI_s, uI_n, bI_n0, bI_n1, bT, bF, if_true, if_false, not_true, not_false_eq_true, pk_div, pk_rem, Nat.reduceEqDiff, Nat.reduceLeDiff, Nat.reduceLT, Nat.reduceAdd, Nat.reduceMul, Nat.reduceSub, Nat.not_lt_zero, Nat.zero_le, reduceCtorEq, ite_self, n_rem, and_self, and_true, true_and, and_false, false_and, sp_isIn, ↓in_t, sp_houM_f hy]
  · refine jtR w' (-2) ?_ ?_ <;> intro I J T Q hI
    · simp (disch := first | assumption | omega | decide) only [x141_0, x141_1, x141_2, x141_3, x141_4, x141_5, x141_6, x141_7, x141_8, x141_9, x141_10, x141_11, x141_12, x141_13, x141_14, x141_15, x141_16, x141_17, x141_18, x141_19, x141_20, ↓reduceIte, Option.toList, List.nil_append, List.cons_append, nI_add, pk_mul, n_and, n_or, n_xor, nI_leI, nI_ltI, nI_eq, n_z, uI_s, uI_n, bI_n0, bI_n1, bT, bF, if_true, if_false, not_true, not_false_eq_true, pk_div, pk_rem, Nat.reduceEqDiff, Nat.reduceLeDiff, Nat.reduceLT, Nat.reduceAdd, Nat.reduceMul, Nat.reduceSub, Nat.not_lt_zero, Nat.zero_le, reduceCtorEq, ite_self, n_rem, and_self, and_true, true_and, and_false, false_and, sp_isWithin, en]
    · simp (disch := first | assumption | omega | decide) only [x281_0, x281_1, x281_2, x281_3, x281_4, x281_5, x281_6, x281_7, x281_8, x281_9, x281_10, x281_11, x281_12, x281_13, x281_14, x281_15, x281_16, x281_17, x281_18, x281_19, x281_20, ↓reduceIte, Option.toList, List.nil_append, List.cons_append, nI_add, pk_mul, n_and, n_or, n_xor, nI_leI, nI_ltI, nI_eq, n_z, uI_s, uI_n, bI_n0, bI_n1, bT, bF, if_true, if_false, not_true, not_false_eq_true, pk_div, pk_rem, Nat.reduceEqDiff, Nat.reduceLeDiff, Nat.reduceLT, Nat.reduceAdd, Nat.reduceMul, Nat.reduceSub, Nat.not_lt_zero, Nat.zero_le, reduceCtorEq, ite_self, n_rem, and_self, and_true, true_and, and_false, false_and, sp_isIn, en]
end Colour2
