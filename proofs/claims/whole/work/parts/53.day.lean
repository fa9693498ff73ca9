/-! days, one after another -/
def dyA (f : (Nat → Nat) → Nat → Nat → Int32) (g : (Nat → Nat) → Nat → Nat → Nat) (A : Nat → Nat) : Nat → Nat := psA tlA f g (svA A)
def dyN (f : (Nat → Nat) → Nat → Nat → Int32) (g : (Nat → Nat) → Nat → Nat → Nat) (A : Nat → Nat) : Nat → Nat → Nat
  | 0 => A
  | j + 1 => dyA f g (dyN f g A j)
def dsN (f : (Nat → Nat) → Nat → Nat → Int32) (g : (Nat → Nat) → Nat → Nat → Nat) (A : Nat → Nat) : Nat → Nat
  | 0 => 0
  | j + 1 => dsN f g A j + p1A g (svA (dyN f g A j)) 10
theorem ps_10 {tl : (Nat → Nat) → Nat → Nat → Nat → Nat} {f : (Nat → Nat) → Nat → Nat → Int32} {g : (Nat → Nat) → Nat → Nat → Nat} {A : Nat → Nat} (ht : tlK tl) (hg : gB g) (w : Wf A) : psA tl f g A 10 = p1A g A 10 := by
  obtain ⟨k1, k2⟩ := p3_inv hg w
  have w1 : A 1 ≤ 4 := w.1.2.1
  have e10 : p3A g A 10 = p1A g A 10 := by rw [p3A, drA, upA_n (by omega), drA, upA_n (by omega)]
  unfold psA p4A
  rw [upA_n (by omega)]
  by_cases c : A 1 = 0
  · rw [if_pos c]
  · rw [if_neg c]
    have hs : psR g A < p3A g A 1 := by
      rw [k2 1 (by unfold pyK; omega) (by omega)]
      exact Nat.mod_lt _ (by omega)
    obtain ⟨l1, l2⟩ := hr_inv (f := f) (hs := psH g A) ht k1 hs 8 (by omega)
    rw [l2 10 (by omega) (by omega) (by omega), e10]
theorem dy_inv {f : (Nat → Nat) → Nat → Nat → Int32} {g : (Nat → Nat) → Nat → Nat → Nat} {A : Nat → Nat} (hg : gB g) (w : Wf A) (h8 : A 8 < 9999) : Wf (dyA f g A) ∧ dyA f g A 8 = A 8 + 1 ∧ ∀ k, (k < 8 ∧ k ≠ 4) ∨ (32 ≤ k ∧ k < 119) → dyA f g A k = A k := by
  have w4 : A 4 ≤ 30 := w.1.2.2.2.2.1
  have e8 : svA A 8 = A 8 := sv_o w4 (by omega)
  obtain ⟨h1, h2, h3, h4⟩ := ps_inv (f := f) tlK_1 hg (sv_W w) (by omega)
  exact ⟨h1, by rw [dyA, h3, e8], fun k hk => (h2 k (by omega)).trans (sv_o w4 (by omega))⟩
theorem dyN_inv {f : (Nat → Nat) → Nat → Nat → Int32} {g : (Nat → Nat) → Nat → Nat → Nat} {A : Nat → Nat} (hg : gB g) (w : Wf A) : ∀ j, A 8 + j ≤ 9999 → Wf (dyN f g A j) ∧ dyN f g A j 8 = A 8 + j ∧ (∀ k, (k < 8 ∧ k ≠ 4) ∨ (32 ≤ k ∧ k < 119) → dyN f g A j k = A k) ∧ dsN f g A j ≤ 3168 * j
  | 0, _ => ⟨w, rfl, fun _ _ => rfl, Nat.le_refl _⟩
  | j + 1, hj => by
    obtain ⟨h1, h2, h3, h4⟩ := dyN_inv (f := f) hg w j (by omega)
    obtain ⟨k1, k2, k3⟩ := dy_inv (f := f) hg h1 (by omega)
    have p := (p1_inv hg (sv_W h1)).2.1
    refine ⟨k1, by rw [dyN, k2]; omega, fun k hk => (k3 k hk).trans (h3 k hk), ?_⟩
    rw [dsN]
    omega
section Day
variable {sc : Sc} {d : Nat} {T : Option Nat} {M : Nat → Nat → Int32} {f : (Nat → Nat) → Nat → Nat → Int32} {g : (Nat → Nat) → Nat → Nat → Nat}
theorem dayC {I : Nat → Nat → Int32} {J : Nat → Nat → Int64} {A B : Nat → Nat} {tx : Nat} (hF : BelC M tx f) (hC : RntC M tx g) (hg : gB g) (w : WW A B) (cI : CI I A B) (eM : txI I = M) (e3 : A 3 = tx) (h8 : A 8 < 9999) : ∃ I1 I2, (∀ Q, Rn sc (d + 6) 56 0 [some (.ref 28), some (.ref 1), none, none, none] [] (K0, I, J, R1 T) Q = Q none (K0, I1, J, R1 T)) ∧ (∀ Q, Rn sc (d + 6) 163 0 [some (.ref 0)] [] (K0, I1, J, R1 T) Q = Q (some (LwC tx)) (K0, I1, J, R1 T)) ∧ (∀ Q, Rn sc (d + 6) 2 0 [some (.ref 71), some (.ref 1), some (LwC tx), none, none, none] [] (K0, I1, J, R1 T) Q = Q none (K0, I2, J, R1 T)) ∧ CI I2 (dyA f g A) B ∧ ∀ c k, (46 ≤ c ∧ c ≤ 68) ∨ 89 ≤ c → I2 c k = I c k := by
  have wA := w.1
  have w4 : A 4 ≤ 30 := wA.1.2.2.2.2.1
  obtain ⟨I1, f1, s1, q1⟩ := sp_save (sc := sc) (d := d + 6) (J := J) (T := T) (u2 := none) (u3 := none) (u4 := none) wA cI.1 cI.2.2.1
  have t1 := sv_T wA cI.1 f1
  have e3' : svA A 3 = tx := (sv_o w4 (by omega)).trans e3
  have e8 : svA A 8 = A 8 := sv_o w4 (by omega)
  obtain ⟨I2, f2, t2, q2⟩ := sp_passCa (sc := sc) (d := d) (J := J) (T := T) hF hC hg (sv_W wA) t1 ((txI_c (fun c k hc => f1 c k (by omega))).trans eM)
  obtain ⟨p1, p2, p3, p4⟩ := ps_inv (f := f) tlK_1 hg (sv_W wA) (by omega)
  refine ⟨I1, I2, q1, fun Q => ?_, q2, ?_, fun c k hc => (f2 c k (by omega)).trans (f1 c k (by omega))⟩
  · rw [sp_ruling (sv_W wA) t1, e3']
  · exact CI_sv w cI t2 (Stw_c s1 (fun c k hc => f2 c k (by omega)) (p2 4 (by omega)) (fun k h1 h2 => p2 k (by omega)) (sv_W wA)) (fun k hk => (p2 k (by omega)).trans (sv_o w4 (by omega))) (fun c k hc => (f2 c k (by omega)).trans (f1 c k (by omega)))
theorem dayM {I : Nat → Nat → Int32} {J : Nat → Nat → Int64} {A B : Nat → Nat} {tx : Nat} (hF : BelM M tx f) (hC : RntM M tx g) (hg : gB g) (w : WW A B) (mI : MI I A B) (eM : txI I = M) (e3 : A 3 = tx) (h8 : A 8 < 9999) : ∃ I1 I2 J2, (∀ Q, Rn sc (d + 7) 241 0 [some (.ref 89), none, none] [] (K0, I, J, R1 T) Q = Q none (K0, I1, J, R1 T)) ∧ (∀ Q, Rn sc (d + 7) 240 0 [some (.ref 89), none, none, none] [] (K0, I1, J, R1 T) Q = Q none (K0, I2, J2, R1 T)) ∧ MI I2 (dyA f g A) B ∧ I2 89 24 = I 89 24 + nI (p1A g (svA A) 10) ∧ ∀ c k, c ≠ 90 ∧ c ≠ 95 ∧ c ≠ 97 ∧ (c ≠ 89 ∨ k ≠ 24) → I2 c k = I c k := by
  have wA := w.1
  have w4 : A 4 ≤ 30 := wA.1.2.2.2.2.1
  have e3' : svA A 3 = tx := (sv_o w4 (by omega)).trans e3
  obtain ⟨I1, f1, a1, q1⟩ := sp_keepM (sc := sc) (d := d + 7) (J := J) (T := T) (u1 := none) (u2 := none) wA mI.1
  have hl : FlM I1 tlA := Or.inl ⟨(f1 _ _ (by omega)).trans mI.2.2, rfl⟩
  obtain ⟨I2, J2, f2, r2, a2, q2⟩ := sp_passM (sc := sc) (d := d) (J := J) (T := T) hF hC hg hl (sv_W wA) a1 ((txI_c (fun c k hc => f1 c k (by omega))).trans eM) e3'
  refine ⟨I1, I2, J2, q1, q2, ⟨a2, AtM_c mI.2.1 (fun k => (f2 _ _ (by omega)).trans (f1 _ _ (by omega))), ((f2 _ _ (by omega)).trans (f1 _ _ (by omega))).trans mI.2.2⟩, by rw [r2, f1 _ _ (by omega)], fun c k hc => (f2 c k hc).trans (f1 c k (by omega))⟩
/-- up to n days, no more than there are -/
def dyM (A : Nat → Nat) (n : Nat) : Nat := if A 8 + n ≤ 9999 then n else 9999 - A 8
theorem WW_dy {A B : Nat → Nat} (hg : gB g) (w : WW A B) {j : Nat} (hj : A 8 + j ≤ 9999) : WW (dyN f g A j) B := by
  obtain ⟨h1, h2, h3, h4⟩ := dyN_inv (f := f) hg w.1 j hj
  exact ⟨h1, w.2.1, by rw [h3 2 (by omega)]; exact w.2.2⟩
theorem sp_daysC {I : Nat → Nat → Int32} {J : Nat → Nat → Int64} {A B : Nat → Nat} {tx n : Nat} (hF : BelC M tx f) (hC : RntC M tx g) (hg : gB g) (w : WW A B) (cI : CI I A B) (eM : txI I = M) (e3 : A 3 = tx) (hn : n < 1024) : ∃ I', CI I' (dyN f g A (dyM A n)) B ∧ (∀ c k, (46 ≤ c ∧ c ≤ 68) ∨ 89 ≤ c → I' c k = I c k) ∧ ∀ Q, Rn sc (d + 7) 122 0 [some (.ref 0), some (.int (nI n)), none] [] (K0, I, J, R1 T) Q = Q (some (.int (if A 8 + n ≤ 9999 then nI 1 else nI 0))) (K0, I', J, R1 T) := by
  have w8 : A 8 ≤ 9999 := w.1.1.2.2.2.2.2.2.2.2.1
  have hm : dyM A n ≤ n ∧ A 8 + dyM A n ≤ 9999 := by
    unfold dyM
    split <;> omega
  obtain ⟨I', ⟨h1, h2⟩, h3⟩ := iterE (fun j I' => CI I' (dyN f g A j) B ∧ ∀ c k, (46 ≤ c ∧ c ≤ 68) ∨ 89 ≤ c → I' c k = I c k) (fun j I' => fun Q => Rn sc (d + 7) 122 2 [some (.ref 0), some (.int (nI n)), some (.int (nI j))] [] (K0, I', J, R1 T) Q) (dyM A n) (by
    rintro j I1 hj ⟨c1, f1⟩
    obtain ⟨wj, ej, kj, -⟩ := dyN_inv (f := f) hg w.1 j (by omega)
    obtain ⟨I2, I3, q1, q2, q3, c3, f3⟩ := dayC (sc := sc) (d := d) (J := J) (T := T) hF hC hg (WW_dy hg w (by omega)) c1 ((txI_c (fun c k hc => f1 c k (by omega))).trans eM) ((kj 3 (by omega)).trans e3) (by omega)
    have e8 : I1 1 11 = nI (A 8 + j) := by rw [← ej]; exact tw_day c1.1
    have a1 : ¬ n ≤ j := by omega
    have a2 : A 8 + j < 9999 := by omega
    refine ⟨I3, ⟨c3, fun c k hc => (f3 c k hc).trans (f1 c k hc)⟩, funext fun Q => ?_⟩
    show Rn _ _ _ _ _ _ _ _ = Rn _ _ _ _ _ _ _ _
    rw [x122_2]
    rcases lw_or tx with ⟨a, e⟩ | e <;> rw [e] at q2 q3 <;> simp (disch := first | assumption | omega | decide) only [x122_0, x122_1, x122_3, x122_4, x122_5, x122_6, x122_7, x122_8, x122_9, x122_10, x122_11, x122_12, x122_13, x122_14, x122_15, x122_16, x122_17, x122_18, x122_19, x122_20, x122_21, x122_22, x122_23r, x122_23n, x122_24, x122_25, x122_26, x122_27, ↓reduceIte, Option.toList, List.nil_append, List.cons_append, nI_add, pk_mul, n_and, n_or, n_xor, nI_leI, nI_ltI, nI_eq, n_z, uI_s, uI_n, bI_n0, bI_n1, bT, bF, if_true, if_false, not_true, not_false_eq_true, pk_div, pk_rem, Nat.reduceEqDiff, Nat.reduceLeDiff, Nat.reduceLT, Nat.reduceAdd, Nat.reduceMul, Nat.reduceSub, Nat.not_lt_zero, Nat.zero_le, reduceCtorEq, ite_self, n_rem, and_self, and_true, true_and, and_false, false_and, a1, e8, a2, q1, q2, q3]) I ⟨cI, fun _ _ _ => rfl⟩
  refine ⟨I', h1, h2, fun Q => ?_⟩
  obtain ⟨wj, ej, kj, -⟩ := dyN_inv (f := f) hg w.1 (dyM A n) hm.2
  have e8 : I' 1 11 = nI (A 8 + dyM A n) := by rw [← ej]; exact tw_day h1.1
  have h3' := congrFun h3 Q
  simp (disch := first | assumption | omega | decide) only [x122_0, x122_1, x122_3, x122_4, x122_5, x122_6, x122_7, x122_8, x122_9, x122_10, x122_11, x122_12, x122_13, x122_14, x122_15, x122_16, x122_17, x122_18, x122_19, x122_20, x122_21, x122_22, x122_23r, x122_23n, x122_24, x122_25, x122_26, x122_27]
  refine Eq.trans h3' ?_
  show Rn _ _ _ _ _ _ _ _ = _
  rw [x122_2]
  by_cases c : A 8 + n ≤ 9999
  · have em : dyM A n = n := if_pos c
    rw [em, if_pos c]
    simp (disch := first | assumption | omega | decide) only [x122_0, x122_1, x122_3, x122_4, x122_5, x122_6, x122_7, x122_8, x122_9, x122_10, x122_11, x122_12, x122_13, x122_14, x122_15, x122_16, x122_17, x122_18, x122_19, x122_20, x122_21, x122_22, x122_23r, x122_23n, x122_24, x122_25, x122_26, x122_27, ↓reduceIte, Option.toList, List.nil_append, List.cons_append, nI_add, pk_mul, n_and, n_or, n_xor, nI_leI, nI_ltI, nI_eq, n_z, uI_s, uI_n, bI_n0, bI_n1, bT, bF, if_true, if_false, not_true, not_false_eq_true, pk_div, pk_rem, Nat.reduceEqDiff, Nat.reduceLeDiff, Nat.reduceLT, Nat.reduceAdd, Nat.reduceMul, Nat.reduceSub, Nat.not_lt_zero, Nat.zero_le, reduceCtorEq, ite_self, n_rem, and_self, and_true, true_and, and_false, false_and, Nat.le_refl]
  · have em : dyM A n = 9999 - A 8 := if_neg c
    rw [em] at e8 ⊢
    have a1 : ¬ n ≤ 9999 - A 8 := by omega
    have a2 : ¬ A 8 + (9999 - A 8) < 9999 := by omega
    rw [if_neg c]
    simp (disch := first | assumption | omega | decide) only [x122_0, x122_1, x122_3, x122_4, x122_5, x122_6, x122_7, x122_8, x122_9, x122_10, x122_11, x122_12, x122_13, x122_14, x122_15, x122_16, x122_17, x122_18, x122_19, x122_20, x122_21, x122_22, x122_23r, x122_23n, x122_24, x122_25, x122_26, x122_27, ↓reduceIte, Option.toList, List.nil_append, List.cons_append, nI_add, pk_mul, n_and, n_or, n_xor, nI_leI, nI_ltI, nI_eq, n_z, uI_s, uI_n, bI_n0, bI_n1, bT, bF, if_true, if_false, not_true, not_false_eq_true, pk_div, pk_rem, Nat.reduceEqDiff, Nat.reduceLeDiff, Nat.reduceLT, Nat.reduceAdd, Nat.reduceMul, Nat.reduceSub, Nat.not_lt_zero, Nat.zero_le, reduceCtorEq, ite_self, n_rem, and_self, and_true, true_and, and_false, false_and, a1, e8, a2]
theorem sp_daysM {I : Nat → Nat → Int32} {J : Nat → Nat → Int64} {A B : Nat → Nat} {tx n : Nat} (hF : BelM M tx f) (hC : RntM M tx g) (hg : gB g) (w : WW A B) (mI : MI I A B) (eM : txI I = M) (e3 : A 3 = tx) (hn : n < 1024) : ∃ I' J', MI I' (dyN f g A (dyM A n)) B ∧ (∀ c k, c ≠ 90 ∧ c ≠ 95 ∧ c ≠ 97 ∧ (c ≠ 89 ∨ k ≠ 24) → I' c k = I c k) ∧ I' 89 24 = nI (dsN f g A (dyM A n)) ∧ ∀ Q, Rn sc (d + 8) 246 0 [some (.ref 89), some (.int (nI n)), none] [] (K0, I, J, R1 T) Q = Q (some (.int (if A 8 + n ≤ 9999 then nI 1 else nI 0))) (K0, I', J', R1 T) := by
  have w8 : A 8 ≤ 9999 := w.1.1.2.2.2.2.2.2.2.2.1
  have hm : dyM A n ≤ n ∧ A 8 + dyM A n ≤ 9999 := by
    unfold dyM
    split <;> omega
  obtain ⟨⟨I', J'⟩, ⟨h1, h2, h4⟩, h3⟩ := iterE (St := (Nat → Nat → Int32) × (Nat → Nat → Int64)) (fun j s => MI s.1 (dyN f g A j) B ∧ (∀ c k, c ≠ 90 ∧ c ≠ 95 ∧ c ≠ 97 ∧ (c ≠ 89 ∨ k ≠ 24) → s.1 c k = I c k) ∧ s.1 89 24 = nI (dsN f g A j)) (fun j s => fun Q => Rn sc (d + 8) 246 5 [some (.ref 89), some (.int (nI n)), some (.int (nI j))] [] (K0, s.1, s.2, R1 T) Q) (dyM A n) (by
    rintro j ⟨I1, J1⟩ hj ⟨c1, f1, r1⟩
    obtain ⟨wj, ej, kj, -⟩ := dyN_inv (f := f) hg w.1 j (by omega)
    obtain ⟨I2, I3, J3, q1, q2, c3, r3, f3⟩ := dayM (sc := sc) (d := d) (J := J1) (T := T) hF hC hg (WW_dy hg w (by omega)) c1 ((txI_c (fun c k hc => f1 c k (by omega))).trans eM) ((kj 3 (by omega)).trans e3) (by omega)
    have e8 : I1 90 8 = nI (A 8 + j) := by rw [← ej]; exact c1.1 8 (by decide)
    have a1 : ¬ n ≤ j := by omega
    have a2 : ¬ A 8 + j = 9999 := by omega
    refine ⟨(I3, J3), ⟨c3, fun c k hc => (f3 c k hc).trans (f1 c k hc), ?_⟩, funext fun Q => ?_⟩
    · show I3 89 24 = _
      rw [r3, r1, nI_add]
      rfl
    · show Rn _ _ _ _ _ _ _ _ = Rn _ _ _ _ _ _ _ _
      rw [x246_5]
      simp (disch := first | assumption | omega | decide) only [x246_0, x246_1, x246_2, x246_3, x246_4, x246_6, x246_7, x246_8, x246_9, x246_10, x246_11, x246_12, x246_13, x246_14, x246_15, x246_16, x246_17, x246_18, x246_19, x246_20, x246_21, x246_22, x246_23, ↓reduceIte, Option.toList, List.nil_append, List.cons_append, nI_add, pk_mul, n_and, n_or, n_xor, nI_leI, nI_ltI, nI_eq, n_z, uI_s, uI_n, bI_n0, bI_n1, bT, bF, if_true, if_false, not_true, not_false_eq_true, pk_div, pk_rem, Nat.reduceEqDiff, Nat.reduceLeDiff, Nat.reduceLT, Nat.reduceAdd, Nat.reduceMul, Nat.reduceSub, Nat.not_lt_zero, Nat.zero_le, reduceCtorEq, ite_self, n_rem, and_self, and_true, true_and, and_false, false_and, a1, e8, a2, q1, q2]) (uI I 89 24 (nI 0), J) ⟨MI_c (I' := uI I 89 24 (nI 0)) mI (fun c k hc => uI_n (by omega)) (uI_n (by omega)), fun c k hc => (uI_n (by omega) : uI I 89 24 (nI 0) c k = I c k), (uI_s : uI I 89 24 (nI 0) 89 24 = nI 0)⟩
  refine ⟨I', J', h1, h2, h4, fun Q => ?_⟩
  obtain ⟨wj, ej, kj, -⟩ := dyN_inv (f := f) hg w.1 (dyM A n) hm.2
  have e8 : I' 90 8 = nI (A 8 + dyM A n) := by rw [← ej]; exact h1.1 8 (by decide)
  have h3' := congrFun h3 Q
  simp (disch := first | assumption | omega | decide) only [x246_0, x246_1, x246_2, x246_3, x246_4, x246_6, x246_7, x246_8, x246_9, x246_10, x246_11, x246_12, x246_13, x246_14, x246_15, x246_16, x246_17, x246_18, x246_19, x246_20, x246_21, x246_22, x246_23]
  refine Eq.trans h3' ?_
  show Rn _ _ _ _ _ _ _ _ = _
  rw [x246_5]
  by_cases c : A 8 + n ≤ 9999
  · have em : dyM A n = n := if_pos c
    rw [em, if_pos c]
    simp (disch := first | assumption | omega | decide) only [x246_0, x246_1, x246_2, x246_3, x246_4, x246_6, x246_7, x246_8, x246_9, x246_10, x246_11, x246_12, x246_13, x246_14, x246_15, x246_16, x246_17, x246_18, x246_19, x246_20, x246_21, x246_22, x246_23, ↓reduceIte, Option.toList, List.nil_append, List.cons_append, nI_add, pk_mul, n_and, n_or, n_xor, nI_leI, nI_ltI, nI_eq, n_z, uI_s, uI_n, bI_n0, bI_n1, bT, bF, if_true, if_false, not_true, not_false_eq_true, pk_div, pk_rem, Nat.reduceEqDiff, Nat.reduceLeDiff, Nat.reduceLT, Nat.reduceAdd, Nat.reduceMul, Nat.reduceSub, Nat.not_lt_zero, Nat.zero_le, reduceCtorEq, ite_self, n_rem, and_self, and_true, true_and, and_false, false_and, Nat.le_refl]
  · have em : dyM A n = 9999 - A 8 := if_neg c
    rw [em] at e8 ⊢
    have a1 : ¬ n ≤ 9999 - A 8 := by omega
    have a2 : A 8 + (9999 - A 8) = 9999 := by omega
    rw [if_neg c]
    simp (disch := first | assumption | omega | decide) only [x246_0, x246_1, x246_2, x246_3, x246_4, x246_6, x246_7, x246_8, x246_9, x246_10, x246_11, x246_12, x246_13, x246_14, x246_15, x246_16, x246_17, x246_18, x246_19, x246_20, x246_21, x246_22, x246_23, ↓reduceIte, Option.toList, List.nil_append, List.cons_append, nI_add, pk_mul, n_and, n_or, n_xor, nI_leI, nI_ltI, nI_eq, n_z, uI_s, uI_n, bI_n0, bI_n1, bT, bF, if_true, if_false, not_true, not_false_eq_true, pk_div, pk_rem, Nat.reduceEqDiff, Nat.reduceLeDiff, Nat.reduceLT, Nat.reduceAdd, Nat.reduceMul, Nat.reduceSub, Nat.not_lt_zero, Nat.zero_le, reduceCtorEq, ite_self, n_rem, and_self, and_true, true_and, and_false, false_and, a1, e8, a2]
theorem jt_day {x : Int32} : Jt TXp sc (d + 9) 119 247 [some (.ref 0), some (.int x), none, none] [some (.ref 89), some (.int x)] := by
  intro A B M w hX
  have w' := w
  obtain ⟨wA, wB, wt⟩ := w
  have w8 : A 8 ≤ 9999 := wA.1.2.2.2.2.2.2.2.2.1
  by_cases hx : inR x 61
  · obtain ⟨n, hn, rfl⟩ := hx
    by_cases hn0 : n = 0
    · subst hn0
      refine jtR w' (-1) ?_ ?_ <;> intro I J T Q hI
      · simp (disch := first | assumption | omega | decide) only [x119_0, x119_1, x119_2, x119_3, x119_4, x119_5, x119_6, x119_7, x119_8, x119_9, x119_10, x119_11, x119_12, x119_13, x119_14, x119_15, x119_16, x119_17, x119_19, x119_20, x119_21, x119_22, x119_23, x119_24, x119_25, x119_26, x119_27, x119_28, x119_29, x119_30, x119_31, x119_32r, x119_32n, x119_33, x119_34, x119_35, x119_36, x119_37, x119_38, x119_39, x119_40, x119_41, x119_42, ↓reduceIte, Option.toList, List.nil_append, List.cons_append, nI_add, pk_mul, n_and, n_or, n_xor, nI_leI, nI_ltI, nI_eq, n_z, uI_s, uI_n, bI_n0, bI_n1, bT, bF, if_true, if_false, not_true, not_false_eq_true, pk_div, pk_rem, Nat.reduceEqDiff, Nat.reduceLeDiff, Nat.reduceLT, Nat.reduceAdd, Nat.reduceMul, Nat.reduceSub, Nat.not_lt_zero, Nat.zero_le, reduceCtorEq, ite_self, n_rem, and_self, and_true, true_and, and_false, false_and, sp_isWithin, ↓in_l]
      · simp (disch := first | assumption | omega | decide) only [x247_0, x247_1, x247_2, x247_3, x247_4, x247_5, x247_6, x247_7, x247_8, x247_9, x247_10, x247_11, x247_12, x247_13, x247_14, x247_15, x247_16, x247_17, x247_18, x247_19, x247_20, x247_21, ↓reduceIte, Option.toList, List.nil_append, List.cons_append, nI_add, pk_mul, n_and, n_or, n_xor, nI_leI, nI_ltI, nI_eq, n_z, uI_s, uI_n, bI_n0, bI_n1, bT, bF, if_true, if_false, not_true, not_false_eq_true, pk_div, pk_rem, Nat.reduceEqDiff, Nat.reduceLeDiff, Nat.reduceLT, Nat.reduceAdd, Nat.reduceMul, Nat.reduceSub, Nat.not_lt_zero, Nat.zero_le, reduceCtorEq, ite_self, n_rem, and_self, and_true, true_and, and_false, false_and, sp_isIn, ↓in_l]
    · by_cases h9 : A 8 + n ≤ 9999
      · obtain ⟨f, hF, hFM⟩ := bel_ex (law_ok wA hX)
        obtain ⟨g, hC, hM, hg⟩ := rnt_ex (law_ok wA hX)
        have hg' : gB g := hg
        obtain ⟨wn', en, kn, bn⟩ := dyN_inv (f := f) hg' wA n h9
        have em : dyM A n = n := if_pos h9
        have f2 : dyN f g A n 2 = A 2 := kn 2 (by omega)
        refine ⟨nI (dsN f g A n), dyN f g A n, B, WW_dy hg' w' h9, by omega, ?_, ?_⟩
        · intro I J T cI eM
          obtain ⟨I', ⟨h1, h2⟩, h3⟩ := iterE (fun j I' => CI I' (dyN f g A j) B ∧ ∀ c k, (46 ≤ c ∧ c ≤ 68) ∨ 89 ≤ c → I' c k = I c k) (fun j I' => fun Q => Rn sc (d + 9) 119 18 [some (.ref 0), some (.int (nI n)), some (.int (nI (dsN f g A j))), some (.int (nI j))] [] (K0, I', J, R1 T) Q) n (by
            rintro j I1 hj ⟨c1, f1⟩
            obtain ⟨wj, ej, kj, -⟩ := dyN_inv (f := f) hg' wA j (by omega)
            obtain ⟨I2, I3, q1, q2, q3, c3, f3⟩ := dayC (sc := sc) (d := d + 2) (J := J) (T := T) hF hC hg' (WW_dy hg' w' (by omega)) c1 ((txI_c (fun c k hc => f1 c k (by omega))).trans eM) (kj 3 (by omega)) (by omega)
            have e10 : I3 1 13 = nI (p1A g (svA (dyN f g A j)) 10) := by rw [← ps_10 (f := f) tlK_1 hg' (sv_W wj)]; exact tw_paid c3.1
            have a1 : ¬ n ≤ j := by omega
            refine ⟨I3, ⟨c3, fun c k hc => (f3 c k hc).trans (f1 c k hc)⟩, funext fun Q => ?_⟩
            show Rn _ _ _ _ _ _ _ _ = Rn _ _ _ _ _ _ _ _
            rw [x119_18, dsN]
            rcases lw_or (A 3) with ⟨a, e⟩ | e <;> rw [e] at q2 q3 <;> simp (disch := first | assumption | omega | decide) only [x119_0, x119_1, x119_2, x119_3, x119_4, x119_5, x119_6, x119_7, x119_8, x119_9, x119_10, x119_11, x119_12, x119_13, x119_14, x119_15, x119_16, x119_17, x119_19, x119_20, x119_21, x119_22, x119_23, x119_24, x119_25, x119_26, x119_27, x119_28, x119_29, x119_30, x119_31, x119_32r, x119_32n, x119_33, x119_34, x119_35, x119_36, x119_37, x119_38, x119_39, x119_40, x119_41, x119_42, ↓reduceIte, Option.toList, List.nil_append, List.cons_append, nI_add, pk_mul, n_and, n_or, n_xor, nI_leI, nI_ltI, nI_eq, n_z, uI_s, uI_n, bI_n0, bI_n1, bT, bF, if_true, if_false, not_true, not_false_eq_true, pk_div, pk_rem, Nat.reduceEqDiff, Nat.reduceLeDiff, Nat.reduceLT, Nat.reduceAdd, Nat.reduceMul, Nat.reduceSub, Nat.not_lt_zero, Nat.zero_le, reduceCtorEq, ite_self, n_rem, and_self, and_true, true_and, and_false, false_and, a1, q1, q2, q3, e10]) I ⟨cI, fun _ _ _ => rfl⟩
          refine ⟨I', h2, h1, fun Q => ?_⟩
          have h3' := congrFun h3 Q
          simp (disch := first | assumption | omega | decide) only [x119_0, x119_1, x119_2, x119_3, x119_4, x119_5, x119_6, x119_7, x119_8, x119_9, x119_10, x119_11, x119_12, x119_13, x119_14, x119_15, x119_16, x119_17, x119_19, x119_20, x119_21, x119_22, x119_23, x119_24, x119_25, x119_26, x119_27, x119_28, x119_29, x119_30, x119_31, x119_32r, x119_32n, x119_33, x119_34, x119_35, x119_36, x119_37, x119_38, x119_39, x119_40, x119_41, x119_42, ↓reduceIte, Option.toList, List.nil_append, List.cons_append, nI_add, pk_mul, n_and, n_or, n_xor, nI_leI, nI_ltI, nI_eq, n_z, uI_s, uI_n, bI_n0, bI_n1, bT, bF, if_true, if_false, not_true, not_false_eq_true, pk_div, pk_rem, Nat.reduceEqDiff, Nat.reduceLeDiff, Nat.reduceLT, Nat.reduceAdd, Nat.reduceMul, Nat.reduceSub, Nat.not_lt_zero, Nat.zero_le, reduceCtorEq, ite_self, n_rem, and_self, and_true, true_and, and_false, false_and, sp_isWithin, ↓in_t, tw_day cI.1, h9]
          refine Eq.trans h3' ?_
          show Rn _ _ _ _ _ _ _ _ = _
          rw [x119_18]
          simp (disch := first | assumption | omega | decide) only [x119_0, x119_1, x119_2, x119_3, x119_4, x119_5, x119_6, x119_7, x119_8, x119_9, x119_10, x119_11, x119_12, x119_13, x119_14, x119_15, x119_16, x119_17, x119_19, x119_20, x119_21, x119_22, x119_23, x119_24, x119_25, x119_26, x119_27, x119_28, x119_29, x119_30, x119_31, x119_32r, x119_32n, x119_33, x119_34, x119_35, x119_36, x119_37, x119_38, x119_39, x119_40, x119_41, x119_42, ↓reduceIte, Option.toList, List.nil_append, List.cons_append, nI_add, pk_mul, n_and, n_or, n_xor, nI_leI, nI_ltI, nI_eq, n_z, uI_s, uI_n, bI_n0, bI_n1, bT, bF, if_true, if_false, not_true, not_false_eq_true, pk_div, pk_rem, Nat.reduceEqDiff, Nat.reduceLeDiff, Nat.reduceLT, Nat.reduceAdd, Nat.reduceMul, Nat.reduceSub, Nat.not_lt_zero, Nat.zero_le, reduceCtorEq, ite_self, n_rem, and_self, and_true, true_and, and_false, false_and, Nat.le_refl]
        · intro I J T mI eM
          obtain ⟨I', J', h1, h2, h4, h3⟩ := sp_daysM (sc := sc) (d := d) (J := J) (T := T) (n := n) hFM hM hg' w' mI eM rfl (by omega)
          rw [em] at h1 h4
          rw [if_pos h9] at h3
          have h9' : ¬ 9999 < A 8 + n := by omega
          refine ⟨I', J', ⟨fun c k hc => h2 c k (by omega), fun k hk => h2 _ _ (by omega)⟩, h1, fun Q => ?_⟩
          simp (disch := first | assumption | omega | decide) only [x247_0, x247_1, x247_2, x247_3, x247_4, x247_5, x247_6, x247_7, x247_8, x247_9, x247_10, x247_11, x247_12, x247_13, x247_14, x247_15, x247_16, x247_17, x247_18, x247_19, x247_20, x247_21, ↓reduceIte, Option.toList, List.nil_append, List.cons_append, nI_add, pk_mul, n_and, n_or, n_xor, nI_leI, nI_ltI, nI_eq, n_z, uI_s, uI_n, bI_n0, bI_n1, bT, bF, if_true, if_false, not_true, not_false_eq_true, pk_div, pk_rem, Nat.reduceEqDiff, Nat.reduceLeDiff, Nat.reduceLT, Nat.reduceAdd, Nat.reduceMul, Nat.reduceSub, Nat.not_lt_zero, Nat.zero_le, reduceCtorEq, ite_self, n_rem, and_self, and_true, true_and, and_false, false_and, sp_isIn, ↓in_t, mI.1 8 (by decide), h9', h3, h4]
      · have h9' : 9999 < A 8 + n := by omega
        refine jtR w' (-1) ?_ ?_ <;> intro I J T Q hI
        · simp (disch := first | assumption | omega | decide) only [x119_0, x119_1, x119_2, x119_3, x119_4, x119_5, x119_6, x119_7, x119_8, x119_9, x119_10, x119_11, x119_12, x119_13, x119_14, x119_15, x119_16, x119_17, x119_19, x119_20, x119_21, x119_22, x119_23, x119_24, x119_25, x119_26, x119_27, x119_28, x119_29, x119_30, x119_31, x119_32r, x119_32n, x119_33, x119_34, x119_35, x119_36, x119_37, x119_38, x119_39, x119_40, x119_41, x119_42, ↓reduceIte, Option.toList, List.nil_append, List.cons_append, nI_add, pk_mul, n_and, n_or, n_xor, nI_leI, nI_ltI, nI_eq, n_z, uI_s, uI_n, bI_n0, bI_n1, bT, bF, if_true, if_false, not_true, not_false_eq_true, pk_div, pk_rem, Nat.reduceEqDiff, Nat.reduceLeDiff, Nat.reduceLT, Nat.reduceAdd, Nat.reduceMul, Nat.reduceSub, Nat.not_lt_zero, Nat.zero_le, reduceCtorEq, ite_self, n_rem, and_self, and_true, true_and, and_false, false_and, sp_isWithin, ↓in_t, tw_day hI.1, h9]
        · simp (disch := first | assumption | omega | decide) only [x247_0, x247_1, x247_2, x247_3, x247_4, x247_5, x247_6, x247_7, x247_8, x247_9, x247_10, x247_11, x247_12, x247_13, x247_14, x247_15, x247_16, x247_17, x247_18, x247_19, x247_20, x247_21, ↓reduceIte, Option.toList, List.nil_append, List.cons_append, nI_add, pk_mul, n_and, n_or, n_xor, nI_leI, nI_ltI, nI_eq, n_z, uI_s, uI_n, bI_n0, bI_n1, bT, bF, if_true, if_false, not_true, not_false_eq_true, pk_div, pk_rem, Nat.reduceEqDiff, Nat.reduceLeDiff, Nat.reduceLT, Nat.reduceAdd, Nat.reduceMul, Nat.reduceSub, Nat.not_lt_zero, Nat.zero_le, reduceCtorEq, ite_self, n_rem, and_self, and_true, true_and, and_false, false_and, sp_isIn, ↓in_t, hI.1 8 (by decide), h9']
  · have e1 : bI (nI 1 ≤ x ∧ x ≤ nI 60) = nI 0 := by
      rw [bI_f]
      rintro ⟨h1, h2⟩
      have := nr_f hx (by decide)
      rw [← this]
      exact ⟨Int32.le_trans (by decide) h1, h2⟩
    refine jtR w' (-1) ?_ ?_ <;> intro I J T Q hI
    · simp (disch := first | assumption | omega | decide) only [x119_0, x119_1, x119_2, x119_3, x119_4, x119_5, x119_6, x119_7, x119_8, x119_9, x119_10, x119_11, x119_12, x119_13, x119_14, x119_15, x119_16, x119_17, x119_19, x119_20, x119_21, x119_22, x119_23, x119_24, x119_25, x119_26, x119_27, x119_28, x119_29, x119_30, x119_31, x119_32r, x119_32n, x119_33, x119_34, x119_35, x119_36, x119_37, x119_38, x119_39, x119_40, x119_41, x119_42, ↓reduceIte, Option.toList, List.nil_append, List.cons_append, nI_add, pk_mul, n_and, n_or, n_xor, nI_leI, nI_ltI, nI_eq, n_z, uI_s, uI_n, bI_n0, bI_n1, bT, bF, if_true, if_false, not_true, not_false_eq_true, pk_div, pk_rem, Nat.reduceEqDiff, Nat.reduceLeDiff, Nat.reduceLT, Nat.reduceAdd, Nat.reduceMul, Nat.reduceSub, Nat.not_lt_zero, Nat.zero_le, reduceCtorEq, ite_self, n_rem, and_self, and_true, true_and, and_false, false_and, sp_isWithin, e1]
    · simp (disch := first | assumption | omega | decide) only [x247_0, x247_1, x247_2, x247_3, x247_4, x247_5, x247_6, x247_7, x247_8, x247_9, x247_10, x247_11, x247_12, x247_13, x247_14, x247_15, x247_16, x247_17, x247_18, x247_19, x247_20, x247_21, ↓reduceIte, Option.toList, List.nil_append, List.cons_append, nI_add, pk_mul, n_and, n_or, n_xor, nI_leI, nI_ltI, nI_eq, n_z, uI_s, uI_n, bI_n0, bI_n1, bT, bF, if_true, if_false, not_true, not_false_eq_true, pk_div, pk_rem, Nat.reduceEqDiff, Nat.reduceLeDiff, Nat.reduceLT, Nat.reduceAdd, Nat.reduceMul, Nat.reduceSub, Nat.not_lt_zero, Nat.zero_le, reduceCtorEq, ite_self, n_rem, and_self, and_true, true_and, and_false, false_and, sp_isIn, e1]
end Day
