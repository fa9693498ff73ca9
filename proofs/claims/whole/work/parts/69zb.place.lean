/-! guests into houses: the class -/
def lfR (g R r : Nat → Nat) (k h : Nat) : Nat := R h - ldN g r k h
theorem lf_4 {g R r : Nat → Nat} {k : Nat} (hR : ∀ h, h < 8 → R h ≤ 4) : ∀ h, h < 8 → lfR g R r k h ≤ 4 := fun h hh => by
  have := hR h hh
  unfold lfR
  omega
theorem lf_u {g R r : Nat → Nat} {k x h : Nat} : lfR g R (upA r k x) (k + 1) h = if h = x then lfR g R r k x - g k else lfR g R r k h := by
  unfold lfR
  rw [ld_u]
  by_cases e : h = x
  · rw [if_pos e, if_pos e.symm, e, Nat.sub_sub]
  · rw [if_neg e, if_neg (fun q => e q.symm)]
    rfl
theorem wt_n : ∀ n, n < 8 → ∀ k, k < n → nI (2 ^ n - 2 ^ k) &&& (nI (2 ^ k) ^^^ (-1)) = nI (2 ^ n - 2 ^ (k + 1)) := by decide +kernel
section Place
variable {sc : Sc} {d : Nat} {J : Nat → Nat → Int64} {T : Option Nat} {g R : Nat → Nat} {n : Nat}
theorem sp_low {k m v : Nat} {r : Nat → Nat} (hk : k + (m + 1) = n) (n7 : n ≤ 7) (hg : ∀ j, j < n → 1 ≤ g j ∧ g j ≤ 4) (hR : ∀ h, h < 8 → R h ≤ 4) (hr : ∀ i, i < k → r i < 8) (hv : mnP g R (m + 1) k r = v) (v1 : v < 100) {x : Nat} (ex : x = fi (fun h => decide (cP g R m k r h = mnG (cP g R m k r) 100 8)) 8) : ∀ t h (I : Nat → Nat → Int32) (u5 : Option Value), h + t = x → LgI I g n → LfI I (lfR g R r k) (skV r k) → ∃ I', (∀ c j, c ≠ 84 ∧ c ≠ 85 ∧ c ≠ 87 → I' c j = I c j) ∧ LfI I' (lfR g R (upA r k x) (k + 1)) (skV (upA r k x) (k + 1)) ∧ ∀ Q, Rn sc (d + 2) 26 2 [some (.ref 84), some (.int (nI k)), some (.int (nI (2 ^ n - 2 ^ (k + 1)))), some (.int (nI v)), some (.int (nI h)), u5] [] (K0, I, J, R1 T) Q = Q (some (.int (nI x))) (K0, I', J, R1 T) := by
  have hv' : mnG (cP g R m k r) 100 8 = v := hv
  obtain ⟨x8, cx⟩ := mnG_at (c := cP g R m k r) (n := 8) (by omega)
  rw [← ex, hv'] at cx
  rw [← ex] at x8
  have fx : ∀ h, h < x → cP g R m k r h ≠ v := fun h hh => by
    obtain ⟨-, p2, -⟩ := fi_sp (f := fun h => decide (cP g R m k r h = mnG (cP g R m k r) 100 8)) 8
    have := of_decide_eq_false (p2 h (by omega))
    rw [hv'] at this
    exact this
  have gk := hg k (by omega)
  have l7 := p7 n7
  have hU := sk_lt k hr
  have pw : 2 ^ (k + 1) ≤ 2 ^ n := Nat.pow_le_pow_right (by decide) (by omega)
  have pp := Nat.two_pow_pos (k + 1)
  -- a house where the guest fits
  have go : ∀ h (I : Nat → Nat → Int32), h < 8 → LgI I g n → LfI I (lfR g R r k) (skV r k) → g k ≤ lfR g R r k h → ∃ I2 V, V < 2 ^ 20 ∧ (V ≤ v ↔ mnP g R m (k + 1) (upA r k h) ≤ v) ∧ (∀ c j, c ≠ 84 ∧ c ≠ 85 ∧ c ≠ 87 → I2 c j = I c j) ∧ LfI I2 (lfR g R (upA r k h) (k + 1)) (skV (upA r k h) (k + 1)) ∧ ∀ u5 Q, Rn sc (d + 2) 26 2 [some (.ref 84), some (.int (nI k)), some (.int (nI (2 ^ n - 2 ^ (k + 1)))), some (.int (nI v)), some (.int (nI h)), u5] [] (K0, I, J, R1 T) Q = Rn sc (d + 2) 26 41 [some (.ref 84), some (.int (nI k)), some (.int (nI (2 ^ n - 2 ^ (k + 1)))), some (.int (nI v)), some (.int (nI h)), some (.int (nI (skV r k)))] [.int (nI V)] (K0, I2, J, R1 T) Q := by
    intro h I hh L F c
    obtain ⟨I1, eI⟩ : ∃ X, X = uI (uI I 85 h (nI (lfR g R r k h - g k))) 84 5 (nI (skV r k ||| 2 ^ h)) := ⟨_, rfl⟩
    have f1 : ∀ c j, c ≠ 84 ∧ c ≠ 85 → I1 c j = I c j := fun c j hc => by rw [eI, uI_n (by omega), uI_n (by omega)]
    have hr' : ∀ i, i < k + 1 → upA r k h i < 8 := fun i hi => by
      by_cases e : i = k
      · rw [upA_e e]; exact hh
      · rw [upA_n e]; exact hr i (by omega)
    have F1 : LfI I1 (lfR g R (upA r k h) (k + 1)) (skV (upA r k h) (k + 1)) := ⟨fun y hy => by
      rw [eI, uI_n (by omega), lf_u]
      by_cases e : y = h
      · rw [if_pos e, e, uI_s]
      · rw [if_neg e, uI_n (by omega)]
        exact F.1 y hy, by rw [eI, uI_s, sk_u]⟩
    have hU1 := sk_lt (k + 1) hr'
    have L1 := lg_c L (I' := I1) (fun c k hc => f1 c k (by omega))
    obtain ⟨I2, f2, q2⟩ := sp_few (sc := sc) (d := d) (J := J) (T := T) n7 (fun j hj => (hg j hj).2) (lf_4 (g := g) (r := upA r k h) (k := k + 1) hR) hU1 (show 2 ^ n - 2 ^ (k + 1) < 2 ^ n by omega) L1 F1
    have pb := pc_8 _ hU1
    have nb := nN_le (g := g) (l := lfR g R (upA r k h) (k + 1)) (U := skV (upA r k h) (k + 1)) 8 (2 ^ n - 2 ^ (k + 1))
    have iff := pk_N (g := g) (R := R) (m := m) (k := k + 1) (r := upA r k h) (v := v) (by omega) v1 (fun i hi => (hg i (by omega)).1) hr'
    rw [show k + 1 + m = n by omega] at iff
    refine ⟨I2, _, ?_, iff, fun c j hc => (f2 c j hc.2.2).trans (f1 c j ⟨hc.1, hc.2.1⟩), lf_c F1 (fun c k hc => f2 c k (by omega)), fun u5 Q => ?_⟩
    · show pcN (skV (upA r k h) (k + 1)) + nN g (lfR g R (upA r k h) (k + 1)) (skV (upA r k h) (k + 1)) 8 (2 ^ n - 2 ^ (k + 1)) < 2 ^ 20
      omega
    · have e1 := F.2
      have e2 := L.2.1 k (by omega)
      have e3 := F.1 h hh
      have lh : ¬ 8 ≤ h := by omega
      have lr := lf_4 (g := g) (r := r) (k := k) hR h hh
      have c1 : ¬ lfR g R r k h < g k := by omega
      have q2' := q2
      rw [eI] at q2'
      rw [x26_2]
      simp (disch := first | assumption | omega | decide) only [x26_3, x26_4, x26_5, x26_6, x26_7, x26_8, x26_9, x26_10, x26_11, x26_12, x26_13, x26_14, x26_15, x26_16, x26_17, x26_18, x26_19, x26_20, x26_21, x26_22, x26_23, x26_24, x26_25, x26_26, x26_27, x26_28, x26_29, x26_30, x26_31, x26_32, x26_33, x26_34, x26_35, x26_36, x26_37, x26_38, x26_39, x26_40, ↓reduceIte, Option.toList, List.nil_append, List.cons_append, nI_add, pk_mul, n_and, n_or, n_xor, nI_leI, nI_ltI, nI_eq, n_z, uI_s, uI_n, bI_n0, bI_n1, bT, bF, if_true, if_false, not_true, not_false_eq_true, pk_div, pk_rem, Nat.reduceEqDiff, Nat.reduceLeDiff, Nat.reduceLT, Nat.reduceAdd, Nat.reduceMul, Nat.reduceSub, Nat.not_lt_zero, Nat.zero_le, reduceCtorEq, ite_self, n_rem, and_self, and_true, true_and, and_false, false_and, lh, e1, e2, e3, c1, n_sub c, n_one, q2']
      rfl
  have fitI : ∀ h, (ldN g r k h + g k ≤ R h ↔ g k ≤ lfR g R r k h) := fun h => by
    unfold lfR
    omega
  intro t
  induction t with
  | zero =>
    intro h I u5 hh L F
    have eh : h = x := by omega
    subst eh
    have c : ldN g r k h + g k ≤ R h := by
      apply Classical.byContradiction
      intro hc
      unfold cP at cx
      rw [if_neg hc] at cx
      omega
    obtain ⟨I2, V, V20, iff, f2, F2, q2⟩ := go h I x8 L F ((fitI h).mp c)
    have cV : V ≤ v := iff.mpr (by
      unfold cP at cx
      rw [if_pos c] at cx
      omega)
    have cV' : ¬ v < V := by omega
    refine ⟨I2, f2, F2, fun Q => ?_⟩
    rw [q2]
    simp (disch := first | assumption | omega | decide) only [x26_41, x26_42, x26_43, x26_44, ↓reduceIte, Option.toList, List.nil_append, List.cons_append, nI_add, pk_mul, n_and, n_or, n_xor, nI_leI, nI_ltI, nI_eq, n_z, uI_s, uI_n, bI_n0, bI_n1, bT, bF, if_true, if_false, not_true, not_false_eq_true, pk_div, pk_rem, Nat.reduceEqDiff, Nat.reduceLeDiff, Nat.reduceLT, Nat.reduceAdd, Nat.reduceMul, Nat.reduceSub, Nat.not_lt_zero, Nat.zero_le, reduceCtorEq, ite_self, n_rem, and_self, and_true, true_and, and_false, false_and, cV']
  | succ t ih =>
    intro h I u5 hh L F
    have h8 : h < 8 := by omega
    have lh : ¬ 8 ≤ h := by omega
    have e1 := F.2
    have e2 := L.2.1 k (by omega)
    have e3 := F.1 h h8
    have lr := lf_4 (g := g) (r := r) (k := k) hR h h8
    by_cases c : ldN g r k h + g k ≤ R h
    · obtain ⟨I2, V, V20, iff, f2, F2, q2⟩ := go h I h8 L F ((fitI h).mp c)
      have cV : ¬ V ≤ v := fun q => by
        have q1 := iff.mp q
        have q3 := (mnG_le (f := cP g R m k r) (a := 100) (v := cP g R m k r h) 8).mpr (Or.inr ⟨h, h8, Nat.le_refl _⟩)
        have q4 := fx h (by omega)
        have q5 : cP g R m k r h = mnP g R m (k + 1) (upA r k h) := if_pos c
        omega
      have cV' : v < V := by omega
      have L2 := lg_c L (I' := I2) (fun c k hc => f2 c k (by omega))
      have c1 := (fitI h).mp c
      obtain ⟨I3, eI⟩ : ∃ X, X = uI (uI I2 85 h (nI (lfR g R r k h))) 84 5 (nI (skV r k)) := ⟨_, rfl⟩
      have F3 : LfI I3 (lfR g R r k) (skV r k) := ⟨fun y hy => by
        rw [eI, uI_n (by omega)]
        by_cases e : y = h
        · rw [e, uI_s]
        · rw [uI_n (by omega), F2.1 y hy, lf_u, if_neg e], by rw [eI, uI_s]⟩
      have f3 : ∀ c j, c ≠ 84 ∧ c ≠ 85 → I3 c j = I2 c j := fun c j hc => by rw [eI, uI_n (by omega), uI_n (by omega)]
      obtain ⟨I4, f4, F4, q4⟩ := ih (h + 1) I3 (some (.int (nI (skV r k)))) (by omega) (lg_c L2 (fun c k hc => f3 c k (by omega))) F3
      refine ⟨I4, fun c j hc => (f4 c j hc).trans ((f3 c j ⟨hc.1, hc.2.1⟩).trans (f2 c j hc)), F4, fun Q => ?_⟩
      have e4 := L2.2.1 k (by omega)
      have e5 : I2 85 h = nI (lfR g R r k h - g k) := by rw [F2.1 h h8, lf_u, if_pos rfl]
      rw [q2, ← q4 Q, eI]
      simp (disch := first | assumption | omega | decide) only [x26_41, x26_42, x26_45, x26_46, x26_47, x26_48, x26_49, x26_50, x26_51, x26_52, x26_53, x26_54, x26_55, x26_56, x26_57, x26_58, x26_59, x26_60, x26_61, ↓reduceIte, Option.toList, List.nil_append, List.cons_append, nI_add, pk_mul, n_and, n_or, n_xor, nI_leI, nI_ltI, nI_eq, n_z, uI_s, uI_n, bI_n0, bI_n1, bT, bF, if_true, if_false, not_true, not_false_eq_true, pk_div, pk_rem, Nat.reduceEqDiff, Nat.reduceLeDiff, Nat.reduceLT, Nat.reduceAdd, Nat.reduceMul, Nat.reduceSub, Nat.not_lt_zero, Nat.zero_le, reduceCtorEq, ite_self, n_rem, and_self, and_true, true_and, and_false, false_and, cV', e4, e5, Nat.sub_add_cancel c1]
    · have c1 : lfR g R r k h < g k := by
        have := fitI h
        omega
      obtain ⟨I4, f4, F4, q4⟩ := ih (h + 1) I (some (.int (nI (skV r k)))) (by omega) L F
      refine ⟨I4, f4, F4, fun Q => ?_⟩
      rw [← q4 Q, x26_2]
      simp (disch := first | assumption | omega | decide) only [x26_3, x26_4, x26_5, x26_6, x26_7, x26_8, x26_9, x26_10, x26_11, x26_12, x26_13, x26_14, x26_15, x26_16, x26_17, x26_60, x26_61, ↓reduceIte, Option.toList, List.nil_append, List.cons_append, nI_add, pk_mul, n_and, n_or, n_xor, nI_leI, nI_ltI, nI_eq, n_z, uI_s, uI_n, bI_n0, bI_n1, bT, bF, if_true, if_false, not_true, not_false_eq_true, pk_div, pk_rem, Nat.reduceEqDiff, Nat.reduceLeDiff, Nat.reduceLT, Nat.reduceAdd, Nat.reduceMul, Nat.reduceSub, Nat.not_lt_zero, Nat.zero_le, reduceCtorEq, ite_self, n_rem, and_self, and_true, true_and, and_false, false_and, lh, e1, e2, e3, c1]
theorem sp_place {I : Nat → Nat → Int32} {v : Nat} {r0 : Nat → Nat} (n7 : n ≤ 7) (hg : ∀ j, j < n → 1 ≤ g j ∧ g j ≤ 4) (hR : ∀ h, h < 8 → R h ≤ 4) (hv : mnP g R n 0 r0 = v) (v1 : v < 100) (L : LgI I g n) (F : LfI I (lfR g R r0 0) (skV r0 0)) : ∃ I', (∀ c j, c ≠ 84 ∧ c ≠ 85 ∧ c ≠ 87 ∧ c ≠ 88 → I' c j = I c j) ∧ (∀ i, i < n → I' 88 i = nI (ptP g R n 0 r0 i)) ∧ ∀ Q, Rn sc (d + 3) 25 0 [some (.ref 84), some (.int (nI v)), none, none] [] (K0, I, J, R1 T) Q = Q none (K0, I', J, R1 T) := by
  have l7 := p7 n7
  obtain ⟨⟨I2, r2⟩, ⟨f2, -, w3, -, -, w6⟩, h2⟩ := iterE (St := (Nat → Nat → Int32) × (Nat → Nat)) (fun k s => (∀ c j, c ≠ 84 ∧ c ≠ 85 ∧ c ≠ 87 ∧ c ≠ 88 → s.1 c j = I c j) ∧ (∀ i, i < k → s.2 i < 8) ∧ ptP g R (n - k) k s.2 = ptP g R n 0 r0 ∧ mnP g R (n - k) k s.2 = v ∧ LfI s.1 (lfR g R s.2 k) (skV s.2 k) ∧ ∀ i, i < k → s.1 88 i = nI (s.2 i)) (fun k s => fun Q => Rn sc (d + 3) 25 10 [some (.ref 84), some (.int (nI v)), some (.int (nI (2 ^ n - 2 ^ k))), some (.int (nI k))] [] (K0, s.1, J, R1 T) Q) n (by
    rintro k ⟨I1, r⟩ hk ⟨f1, w2, w3, w4, w5, w6⟩
    have f1 : ∀ c j, c ≠ 84 ∧ c ≠ 85 ∧ c ≠ 87 ∧ c ≠ 88 → I1 c j = I c j := f1
    have w5 : LfI I1 (lfR g R r k) (skV r k) := w5
    have w6 : ∀ i, i < k → I1 88 i = nI (r i) := w6
    obtain ⟨m, em⟩ : ∃ m, n - k = m + 1 := ⟨n - k - 1, by omega⟩
    rw [em] at w3 w4
    obtain ⟨x, ex⟩ : ∃ x, x = fi (fun h => decide (cP g R m k r h = mnG (cP g R m k r) 100 8)) 8 := ⟨_, rfl⟩
    have L1 := lg_c L (I' := I1) (fun c k hc => f1 c k (by omega))
    obtain ⟨I3, f3, F3, q3⟩ := sp_low (sc := sc) (d := d) (J := J) (T := T) (show k + (m + 1) = n by omega) n7 hg hR w2 w4 v1 ex x 0 I1 none (by omega) L1 w5
    have w4' : mnG (cP g R m k r) 100 8 = v := w4
    obtain ⟨x8, cx⟩ := mnG_at (c := cP g R m k r) (n := 8) (by omega)
    rw [← ex, w4'] at cx
    rw [← ex] at x8
    have cx2 : mnP g R m (k + 1) (upA r k x) = v := by
      unfold cP at cx
      split at cx
      · exact cx
      · omega
    have em2 : n - (k + 1) = m := by omega
    refine ⟨(uI I3 88 k (nI x), upA r k x), ⟨fun c j hc => (uI_n (by omega)).trans ((f3 c j (by omega)).trans (f1 c j hc)), fun i hi => ?_, ?_, ?_, lf_c F3 (fun c k hc => uI_n (by omega)), fun i hi => ?_⟩, funext fun Q => ?_⟩
    · show upA r k x i < 8
      by_cases e : i = k
      · rw [upA_e e]; exact x8
      · rw [upA_n e]; exact w2 i (by omega)
    · show ptP g R (n - (k + 1)) (k + 1) (upA r k x) = _
      rw [em2, ← w3, ptP_s, ← ex]
    · show mnP g R (n - (k + 1)) (k + 1) (upA r k x) = _
      rw [em2]
      exact cx2
    · show uI I3 88 k (nI x) 88 i = nI (upA r k x i)
      by_cases e : i = k
      · rw [e, uI_s, upA_s]
      · rw [uI_n (by omega), upA_n e, f3 88 i (by omega)]
        exact w6 i (by omega)
    · show Rn _ _ _ _ _ _ _ _ = Rn _ _ _ _ _ _ _ _
      have lk : ¬ n ≤ k := by omega
      have e1 := L1.1
      have e2 := wt_n n (by omega) k hk
      have q3' : ∀ Q, Rn sc (d + 2) 26 0 [some (.ref 84), some (.int (nI k)), some (.int (nI (2 ^ n - 2 ^ (k + 1)))), some (.int (nI v)), none, none] [] (K0, I1, J, R1 T) Q = Q (some (.int (nI x))) (K0, I3, J, R1 T) := fun Q => by
        rw [← q3 Q]
        simp (disch := first | assumption | omega | decide) only [x26_0, x26_1, ↓reduceIte, Option.toList, List.nil_append, List.cons_append, nI_add, pk_mul, n_and, n_or, n_xor, nI_leI, nI_ltI, nI_eq, n_z, uI_s, uI_n, bI_n0, bI_n1, bT, bF, if_true, if_false, not_true, not_false_eq_true, pk_div, pk_rem, Nat.reduceEqDiff, Nat.reduceLeDiff, Nat.reduceLT, Nat.reduceAdd, Nat.reduceMul, Nat.reduceSub, Nat.not_lt_zero, Nat.zero_le, reduceCtorEq, ite_self, n_rem, and_self, and_true, true_and, and_false, false_and]
      rw [x25_10]
      simp (disch := first | assumption | omega | decide) only [x25_11, x25_12, x25_13, x25_14, x25_15, x25_16, x25_17, x25_18, x25_19, x25_20, x25_21, x25_22, x25_23, x25_24, x25_25, x25_26, x25_27, x25_28, x25_29, x25_30, x25_31, x25_32, x25_33, ↓reduceIte, Option.toList, List.nil_append, List.cons_append, nI_add, pk_mul, n_and, n_or, n_xor, nI_leI, nI_ltI, nI_eq, n_z, uI_s, uI_n, bI_n0, bI_n1, bT, bF, if_true, if_false, not_true, not_false_eq_true, pk_div, pk_rem, Nat.reduceEqDiff, Nat.reduceLeDiff, Nat.reduceLT, Nat.reduceAdd, Nat.reduceMul, Nat.reduceSub, Nat.not_lt_zero, Nat.zero_le, reduceCtorEq, ite_self, n_rem, and_self, and_true, true_and, and_false, false_and, e1, lk, n_one, e2, q3']) (I, r0) ⟨fun _ _ _ => rfl, fun i hi => by omega, by rw [Nat.sub_zero], by rw [Nat.sub_zero]; exact hv, F, fun i hi => by omega⟩
  have f2 : ∀ c j, c ≠ 84 ∧ c ≠ 85 ∧ c ≠ 87 ∧ c ≠ 88 → I2 c j = I c j := f2
  refine ⟨I2, f2, fun i hi => ?_, fun Q => ?_⟩
  · have w6' : I2 88 i = nI (r2 i) := w6 i hi
    have w3' : ptP g R (n - n) n r2 = ptP g R n 0 r0 := w3
    rw [Nat.sub_self] at w3'
    rw [w6', ← w3']
    rfl
  · have h2' := congrFun h2 Q
    have e1 := L.1
    have e2 : I2 32 4 = nI n := (f2 _ _ (by decide)).trans L.1
    have p1 := Nat.two_pow_pos n
    simp (disch := first | assumption | omega | decide) only [x25_0, x25_1, x25_2, x25_3, x25_4, x25_5, x25_6, x25_7, x25_8, x25_9, ↓reduceIte, Option.toList, List.nil_append, List.cons_append, nI_add, pk_mul, n_and, n_or, n_xor, nI_leI, nI_ltI, nI_eq, n_z, uI_s, uI_n, bI_n0, bI_n1, bT, bF, if_true, if_false, not_true, not_false_eq_true, pk_div, pk_rem, Nat.reduceEqDiff, Nat.reduceLeDiff, Nat.reduceLT, Nat.reduceAdd, Nat.reduceMul, Nat.reduceSub, Nat.not_lt_zero, Nat.zero_le, reduceCtorEq, ite_self, n_rem, and_self, and_true, true_and, and_false, false_and, e1, n_one, n_sub (show 1 ≤ 2 ^ n by omega)]
    refine Eq.trans h2' ?_
    show Rn _ _ _ _ _ _ _ _ = _
    rw [x25_10]
    simp (disch := first | assumption | omega | decide) only [x25_11, x25_12, x25_13, x25_14, x25_34, ↓reduceIte, Option.toList, List.nil_append, List.cons_append, nI_add, pk_mul, n_and, n_or, n_xor, nI_leI, nI_ltI, nI_eq, n_z, uI_s, uI_n, bI_n0, bI_n1, bT, bF, if_true, if_false, not_true, not_false_eq_true, pk_div, pk_rem, Nat.reduceEqDiff, Nat.reduceLeDiff, Nat.reduceLT, Nat.reduceAdd, Nat.reduceMul, Nat.reduceSub, Nat.not_lt_zero, Nat.zero_le, reduceCtorEq, ite_self, n_rem, and_self, and_true, true_and, and_false, false_and, e2, Nat.le_refl]
theorem sp_house {I : Nat → Nat → Int32} (r0 : Nat → Nat) (n7 : n ≤ 7) (h4 : I 32 4 = nI n) (h35 : ∀ j, j < n → I 35 j = nI (g j)) (h2 : ∀ h, h < 8 → I 2 h = nI (R h)) (hg : ∀ j, j < n → 1 ≤ g j ∧ g j ≤ 4) (hR : ∀ h, h < 8 → R h ≤ 4) : ∃ I', (∀ c j, c ≠ 84 ∧ c ≠ 85 ∧ c ≠ 86 ∧ c ≠ 87 → I' c j = I c j) ∧ LgI I' g n ∧ LfI I' (lfR g R r0 0) (skV r0 0) ∧ ∀ Q, Rn sc (d + 2) 22 0 [some (.ref 84), none, none] [] (K0, I, J, R1 T) Q = Q (some (.int (nI (mnP g R n 0 r0)))) (K0, I', J, R1 T) := by
  have l7 := p7 n7
  have p1 := Nat.two_pow_pos n
  obtain ⟨I1, eI⟩ : ∃ X, X = uI (uI (uC I 2 85 0 0 8) 84 5 (nI 0)) 86 0 (nI 0) := ⟨_, rfl⟩
  have f1 : ∀ c j, c ≠ 84 ∧ c ≠ 85 ∧ c ≠ 86 → I1 c j = I c j := fun c j hc => by rw [eI, uI_n (by omega), uI_n (by omega), uC_n (by omega)]
  have F1 : LfI I1 (lfR g R r0 0) (skV r0 0) := ⟨fun h hh => by
    rw [eI, uI_n (by omega), uI_n (by omega), uC_i (by omega), Nat.zero_add, Nat.sub_zero]
    exact h2 h hh, by rw [eI, uI_n (by omega), uI_s]; rfl⟩
  obtain ⟨I2, u1, u2, f2, L2, q2⟩ := sp_sizes (sc := sc) (d := d) (J := J) (T := T) (I := I1) n7 ((f1 _ _ (by decide)).trans h4) (fun j hj => (f1 _ _ (by decide)).trans (h35 j hj)) (fun j hj => (hg j hj).2) (by rw [eI, uI_s])
  have F2 : LfI I2 (lfR g R r0 0) (skV r0 0) := lf_c F1 (fun c k hc => f2 c k (by omega))
  obtain ⟨I3, f3, q3⟩ := sp_few (sc := sc) (d := d) (J := J) (T := T) (S := 2 ^ n - 1) n7 (fun j hj => (hg j hj).2) (lf_4 (g := g) (r := r0) (k := 0) hR) (show skV r0 0 < 256 by rw [skV]; decide) (by omega) L2 F2
  have ev : pcN (skV r0 0) + nN g (lfR g R r0 0) (skV r0 0) 8 (2 ^ n - 1) = mnP g R n 0 r0 := by
    have nb := nN_le (g := g) (l := lfR g R r0 0) (U := skV r0 0) 8 (2 ^ n - 1)
    have p0 : pcN (skV r0 0) = 0 := pcN_0
    refine le_ext2 (b := 100) (by omega) (mn_100 _ _ _) (fun v hv => ?_)
    have := pk_N (g := g) (R := R) (m := n) (k := 0) (r := r0) (v := v) (by omega) hv (fun i hi => (hg i (by omega)).1) (fun i hi => by omega)
    rw [Nat.zero_add, Nat.pow_zero] at this
    exact this
  rw [ev] at q3
  refine ⟨I3, fun c j hc => (f3 c j hc.2.2.2).trans ((f2 c j hc.2.2.1).trans (f1 c j ⟨hc.1, hc.2.1, hc.2.2.1⟩)), lg_c L2 (fun c k hc => f3 c k (by omega)), lf_c F2 (fun c k hc => f3 c k (by omega)), fun Q => ?_⟩
  have e1 := L2.1
  rw [eI] at q2
  simp (disch := first | assumption | omega | decide) only [x22_0, x22_1, x22_2, x22_3, x22_4, x22_5, x22_6, x22_7, x22_8, x22_9, x22_10, x22_11, x22_12, x22_13, x22_14, x22_15, x22_16, x22_17, x22_18, ↓reduceIte, Option.toList, List.nil_append, List.cons_append, nI_add, pk_mul, n_and, n_or, n_xor, nI_leI, nI_ltI, nI_eq, n_z, uI_s, uI_n, bI_n0, bI_n1, bT, bF, if_true, if_false, not_true, not_false_eq_true, pk_div, pk_rem, Nat.reduceEqDiff, Nat.reduceLeDiff, Nat.reduceLT, Nat.reduceAdd, Nat.reduceMul, Nat.reduceSub, Nat.not_lt_zero, Nat.zero_le, reduceCtorEq, ite_self, n_rem, and_self, and_true, true_and, and_false, false_and, q2]
  simp (disch := first | assumption | omega | decide) only [x22_49, x22_50, x22_51, x22_52, x22_53, x22_54, x22_55, x22_56, x22_57, x22_58, ↓reduceIte, Option.toList, List.nil_append, List.cons_append, nI_add, pk_mul, n_and, n_or, n_xor, nI_leI, nI_ltI, nI_eq, n_z, uI_s, uI_n, bI_n0, bI_n1, bT, bF, if_true, if_false, not_true, not_false_eq_true, pk_div, pk_rem, Nat.reduceEqDiff, Nat.reduceLeDiff, Nat.reduceLT, Nat.reduceAdd, Nat.reduceMul, Nat.reduceSub, Nat.not_lt_zero, Nat.zero_le, reduceCtorEq, ite_self, n_rem, and_self, and_true, true_and, and_false, false_and, e1, n_one, n_sub (show 1 ≤ 2 ^ n by omega), q3]
end Place
