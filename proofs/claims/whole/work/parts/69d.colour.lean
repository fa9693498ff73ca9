/-! colours that are unlike -/
def unC (A r : Nat → Nat) (k h : Nat) : Nat → Bool
  | 0 => true
  | g + 1 => unC A r k h g && !(decide (bes A k / 2 ^ g % 2 = 1) && decide (r g = h))
abbrev okC (A : Nat → Nat) (k : Nat) (r : Nat → Nat) (h : Nat) : Prop := unC A r k h k = true
theorem un_f {A r : Nat → Nat} {k h j : Nat} (e : unC A r k h j = false) : ∀ m, unC A r k h (j + m) = false
  | 0 => e
  | m + 1 => by
    show (unC A r k h (j + m) && _) = false
    rw [un_f e m, Bool.false_and]
theorem lc_z : lg_cmp (lN 0) 0 = nI 0 := by decide
theorem lc_p {m : Nat} (h : 0 < m) (hm : m < 2 ^ 31) : lg_cmp (lN m) 0 = nI 1 := by
  unfold lg_cmp
  have h' : lN m > 0 := (lN_lt (a := 0) (b := m) (by omega) hm).mpr h
  rw [if_pos h']
  rfl
theorem en_p {h : Nat} : enB h + nI 1 = nI h := by
  cases h with
  | zero => exact m1_p
  | succ h => rw [enB_s, nI_add]
theorem fd_k {B : Nat} {ok : Nat → (Nat → Nat) → Nat → Prop} [dk : ∀ k r h, Decidable (ok k r h)] {n k j : Nat} {r : Nat → Nat} {s : Nat × (Nat → Int32)} (hj : 0 < (foldS (chB B ok n k r) s j).1) : ∀ m, 0 < (foldS (chB B ok n k r) s (j + m)).1 ∧ (foldS (chB B ok n k r) s (j + m)).2 = (foldS (chB B ok n k r) s j).2
  | 0 => ⟨hj, rfl⟩
  | m + 1 => by
    obtain ⟨h1, h2⟩ := fd_k (B := B) (ok := ok) hj m
    rw [show j + (m + 1) = j + m + 1 from rfl, foldS_s]
    unfold chB at h1 h2 ⊢
    split
    · have h3 := bt_le (B := B) (ok := ok) n (k + 1) (upA r k (j + m)) (foldS (chB B ok n k r) s (j + m))
      have h4 := bt_k (B := B) (ok := ok) n (k + 1) (upA r k (j + m)) (foldS (chB B ok n k r) s (j + m)) h1
      exact ⟨Nat.lt_of_lt_of_le h1 h3.1, h4.trans h2⟩
    · exact ⟨h1, h2⟩
section Colour
variable {sc : Sc} {d : Nat} {J : Nat → Nat → Int64} {T : Option Nat} {A : Nat → Nat}
theorem sp_differs {I : Nat → Nat → Int32} {r : Nat → Nat} {k h : Nat} (hk : k < 8) (w : Wf A) (eB : BsC I A) (hp : ∀ i, i < k → I 79 i = nI (r i) ∧ r i < 4) (hz : I 79 k = nI h) (hh : h < 4) : ∀ (m j : Nat), j + m = k → unC A r k h j = true → ∀ Q, Rn sc (d + 1) 77 2 [some (.ref 72), some (.int (nI k)), some (.int (nI j))] [] (K0, I, J, R1 T) Q = Q (some (.int (bI (okC A k r h)))) (K0, I, J, R1 T) := by
  intro m
  induction m with
  | zero =>
    intro j hj e Q
    obtain rfl : j = k := by omega
    rw [bI_t e, x77_2]
    simp (disch := first | assumption | omega | decide) only [x77_3, x77_4, x77_23, x77_24, ↓reduceIte, Option.toList, List.nil_append, List.cons_append, nI_add, pk_mul, n_and, n_or, n_xor, nI_leI, nI_ltI, nI_eq, n_z, uI_s, uI_n, bI_n0, bI_n1, bT, bF, if_true, if_false, not_true, not_false_eq_true, pk_div, pk_rem, Nat.reduceEqDiff, Nat.reduceLeDiff, Nat.reduceLT, Nat.reduceAdd, Nat.reduceMul, Nat.reduceSub, Nat.not_lt_zero, Nat.zero_le, reduceCtorEq, ite_self, n_rem, and_self, and_true, true_and, and_false, false_and, Nat.le_refl]
  | succ m ih =>
    intro j hj e Q
    have lj : ¬ k ≤ j := by omega
    have j8 : j < 8 := by omega
    obtain ⟨pj, rj⟩ := hp j (by omega)
    have jn := fun Q => sp_joins (Q := Q) (sc := sc) (d := d) (J := J) (T := T) hk j8 w eB
    by_cases c : bes A k / 2 ^ j % 2 = 1
    · by_cases c2 : r j = h
      · have e1 : unC A r k h (j + 1) = false := by
          rw [unC, e, decide_eq_true c, decide_eq_true c2]
          rfl
        have e2 := un_f e1 m
        rw [show j + 1 + m = k by omega] at e2
        rw [bI_f (show ¬ okC A k r h from fun h' => Bool.noConfusion ((show unC A r k h k = true from h').symm.trans e2)), x77_2]
        simp (disch := first | assumption | omega | decide) only [x77_3, x77_4, x77_5, x77_6, x77_7, x77_8, x77_9, x77_10, x77_11, x77_12, x77_13, x77_14, x77_15, x77_16, x77_17, x77_18, x77_19, x77_20, ↓reduceIte, Option.toList, List.nil_append, List.cons_append, nI_add, pk_mul, n_and, n_or, n_xor, nI_leI, nI_ltI, nI_eq, n_z, uI_s, uI_n, bI_n0, bI_n1, bT, bF, if_true, if_false, not_true, not_false_eq_true, pk_div, pk_rem, Nat.reduceEqDiff, Nat.reduceLeDiff, Nat.reduceLT, Nat.reduceAdd, Nat.reduceMul, Nat.reduceSub, Nat.not_lt_zero, Nat.zero_le, reduceCtorEq, ite_self, n_rem, and_self, and_true, true_and, and_false, false_and, lj, jn, c, hz, pj, c2]
      · have c2' : ¬ h = r j := fun e => c2 e.symm
        have e1 : unC A r k h (j + 1) = true := by
          rw [unC, e, decide_eq_false c2, Bool.and_false]
          rfl
        rw [← ih (j + 1) (by omega) e1 Q, x77_2]
        simp (disch := first | assumption | omega | decide) only [x77_3, x77_4, x77_5, x77_6, x77_7, x77_8, x77_9, x77_10, x77_11, x77_12, x77_13, x77_14, x77_15, x77_16, x77_17, x77_18, x77_19, x77_20, x77_21, x77_22, ↓reduceIte, Option.toList, List.nil_append, List.cons_append, nI_add, pk_mul, n_and, n_or, n_xor, nI_leI, nI_ltI, nI_eq, n_z, uI_s, uI_n, bI_n0, bI_n1, bT, bF, if_true, if_false, not_true, not_false_eq_true, pk_div, pk_rem, Nat.reduceEqDiff, Nat.reduceLeDiff, Nat.reduceLT, Nat.reduceAdd, Nat.reduceMul, Nat.reduceSub, Nat.not_lt_zero, Nat.zero_le, reduceCtorEq, ite_self, n_rem, and_self, and_true, true_and, and_false, false_and, lj, jn, c, hz, pj, c2']
    · have e1 : unC A r k h (j + 1) = true := by
        rw [unC, e, decide_eq_false c]
        rfl
      rw [← ih (j + 1) (by omega) e1 Q, x77_2]
      simp (disch := first | assumption | omega | decide) only [x77_3, x77_4, x77_5, x77_6, x77_7, x77_8, x77_9, x77_10, x77_11, x77_12, x77_13, x77_14, x77_15, x77_16, x77_17, x77_18, x77_19, x77_20, x77_21, x77_22, ↓reduceIte, Option.toList, List.nil_append, List.cons_append, nI_add, pk_mul, n_and, n_or, n_xor, nI_leI, nI_ltI, nI_eq, n_z, uI_s, uI_n, bI_n0, bI_n1, bT, bF, if_true, if_false, not_true, not_false_eq_true, pk_div, pk_rem, Nat.reduceEqDiff, Nat.reduceLeDiff, Nat.reduceLT, Nat.reduceAdd, Nat.reduceMul, Nat.reduceSub, Nat.not_lt_zero, Nat.zero_le, reduceCtorEq, ite_self, n_rem, and_self, and_true, true_and, and_false, false_and, lj, jn, c]
theorem sp_unlikeM {I : Nat → Nat → Int32} {r : Nat → Nat} {k h : Nat} (hk : k < 8) (w : Wf A) (mA : AtM I 90 A) (hp : ∀ i, i < k → I 100 i = nI (r i) ∧ r i < 4) (hz : I 100 k = nI h) (hh : h < 4) : ∀ (m j : Nat), j + m = k → unC A r k h j = true → ∀ Q, Rn sc (d + 1) 278 2 [some (.ref 89), some (.int (nI k)), some (.int (nI j))] [] (K0, I, J, R1 T) Q = Q (some (.int (bI (okC A k r h)))) (K0, I, J, R1 T) := by
  intro m
  induction m with
  | zero =>
    intro j hj e Q
    obtain rfl : j = k := by omega
    rw [bI_t e, x278_2]
    simp (disch := first | assumption | omega | decide) only [x278_3, x278_4, x278_24, x278_25, ↓reduceIte, Option.toList, List.nil_append, List.cons_append, nI_add, pk_mul, n_and, n_or, n_xor, nI_leI, nI_ltI, nI_eq, n_z, uI_s, uI_n, bI_n0, bI_n1, bT, bF, if_true, if_false, not_true, not_false_eq_true, pk_div, pk_rem, Nat.reduceEqDiff, Nat.reduceLeDiff, Nat.reduceLT, Nat.reduceAdd, Nat.reduceMul, Nat.reduceSub, Nat.not_lt_zero, Nat.zero_le, reduceCtorEq, ite_self, n_rem, and_self, and_true, true_and, and_false, false_and, Nat.le_refl]
  | succ m ih =>
    intro j hj e Q
    have lj : ¬ k ≤ j := by omega
    have j8 : j < 8 := by omega
    obtain ⟨pj, rj⟩ := hp j (by omega)
    have lb : bes A k < 256 := bes_lt w
    have bm := fun Q => sp_besM (Q := Q) (sc := sc) (d := d) (J := J) (T := T) (u2 := none) (u3 := none) hk w mA
    by_cases c : bes A k / 2 ^ j % 2 = 1
    · by_cases c2 : r j = h
      · have e1 : unC A r k h (j + 1) = false := by
          rw [unC, e, decide_eq_true c, decide_eq_true c2]
          rfl
        have e2 := un_f e1 m
        rw [show j + 1 + m = k by omega] at e2
        rw [bI_f (show ¬ okC A k r h from fun h' => Bool.noConfusion ((show unC A r k h k = true from h').symm.trans e2)), x278_2]
        simp (disch := first | assumption | omega | decide) only [x278_3, x278_4, x278_5, x278_6, x278_7, x278_8, x278_9, x278_10, x278_11, x278_12, x278_13, x278_14, x278_15, x278_16, x278_17, x278_18, x278_19, x278_20, x278_21, ↓reduceIte, Option.toList, List.nil_append, List.cons_append, nI_add, pk_mul, n_and, n_or, n_xor, nI_leI, nI_ltI, nI_eq, n_z, uI_s, uI_n, bI_n0, bI_n1, bT, bF, if_true, if_false, not_true, not_false_eq_true, pk_div, pk_rem, Nat.reduceEqDiff, Nat.reduceLeDiff, Nat.reduceLT, Nat.reduceAdd, Nat.reduceMul, Nat.reduceSub, Nat.not_lt_zero, Nat.zero_le, reduceCtorEq, ite_self, n_rem, and_self, and_true, true_and, and_false, false_and, lj, bm, sp_has, c, hz, pj, c2]
      · have e1 : unC A r k h (j + 1) = true := by
          rw [unC, e, decide_eq_false c2, Bool.and_false]
          rfl
        rw [← ih (j + 1) (by omega) e1 Q, x278_2]
        simp (disch := first | assumption | omega | decide) only [x278_3, x278_4, x278_5, x278_6, x278_7, x278_8, x278_9, x278_10, x278_11, x278_12, x278_13, x278_14, x278_15, x278_16, x278_17, x278_18, x278_19, x278_20, x278_21, x278_22, x278_23, ↓reduceIte, Option.toList, List.nil_append, List.cons_append, nI_add, pk_mul, n_and, n_or, n_xor, nI_leI, nI_ltI, nI_eq, n_z, uI_s, uI_n, bI_n0, bI_n1, bT, bF, if_true, if_false, not_true, not_false_eq_true, pk_div, pk_rem, Nat.reduceEqDiff, Nat.reduceLeDiff, Nat.reduceLT, Nat.reduceAdd, Nat.reduceMul, Nat.reduceSub, Nat.not_lt_zero, Nat.zero_le, reduceCtorEq, ite_self, n_rem, and_self, and_true, true_and, and_false, false_and, lj, bm, sp_has, c, hz, pj, c2]
    · have e1 : unC A r k h (j + 1) = true := by
        rw [unC, e, decide_eq_false c]
        rfl
      rw [← ih (j + 1) (by omega) e1 Q, x278_2]
      simp (disch := first | assumption | omega | decide) only [x278_3, x278_4, x278_5, x278_6, x278_7, x278_8, x278_9, x278_10, x278_11, x278_12, x278_13, x278_14, x278_15, x278_16, x278_17, x278_18, x278_19, x278_20, x278_21, x278_22, x278_23, ↓reduceIte, Option.toList, List.nil_append, List.cons_append, nI_add, pk_mul, n_and, n_or, n_xor, nI_leI, nI_ltI, nI_eq, n_z, uI_s, uI_n, bI_n0, bI_n1, bT, bF, if_true, if_false, not_true, not_false_eq_true, pk_div, pk_rem, Nat.reduceEqDiff, Nat.reduceLeDiff, Nat.reduceLT, Nat.reduceAdd, Nat.reduceMul, Nat.reduceSub, Nat.not_lt_zero, Nat.zero_le, reduceCtorEq, ite_self, n_rem, and_self, and_true, true_and, and_false, false_and, lj, bm, sp_has, c]
theorem tf_C {n : Nat} (hn : n ≤ 4) (w : Wf A) : ∀ (m k : Nat) (r : Nat → Nat) (I : Nat → Nat → Int32), k + m = 8 → BsC I A → (∀ i, i < k → I 79 i = nI (r i) ∧ r i < 4) → ∃ I', (∀ c j, c ≠ 79 → I' c j = I c j) ∧ (∀ i, i < k → I' 79 i = nI (r i)) ∧ (0 < (btA n (okC A) m k r (0, F00)).1 → ∀ i, i < 8 → I' 79 i = (btA n (okC A) m k r (0, F00)).2 i) ∧ ∀ Q, Rn sc (d + m + 2) 76 0 [some (.ref 72), some (.int (nI k)), some (.int (nI n)), none] [] (K0, I, J, R1 T) Q = Q (some (.int (bI (0 < (btA n (okC A) m k r (0, F00)).1)))) (K0, I', J, R1 T) := by
  intro m
  induction m with
  | zero =>
    intro k r I hk eB hp
    obtain rfl : k = 8 := by omega
    rw [bt_0]
    refine ⟨I, fun _ _ _ => rfl, fun i hi => (hp i hi).1, fun _ i hi => ?_, fun Q => ?_⟩
    · show I 79 i = (if (0 : Nat) = 0 then fun i => nI (r i) else F00) i
      rw [if_pos rfl]
      exact (hp i hi).1
    · rw [bI_t (show 0 < 0 + 1 by omega)]
      simp (disch := first | assumption | omega | decide) only [x76_0, x76_1, x76_2, x76_3, x76_4, ↓reduceIte, Option.toList, List.nil_append, List.cons_append, nI_add, pk_mul, n_and, n_or, n_xor, nI_leI, nI_ltI, nI_eq, n_z, uI_s, uI_n, bI_n0, bI_n1, bT, bF, if_true, if_false, not_true, not_false_eq_true, pk_div, pk_rem, Nat.reduceEqDiff, Nat.reduceLeDiff, Nat.reduceLT, Nat.reduceAdd, Nat.reduceMul, Nat.reduceSub, Nat.not_lt_zero, Nat.zero_le, reduceCtorEq, ite_self, n_rem, and_self, and_true, true_and, and_false, false_and]
  | succ m ih =>
    intro k r I hk eB hp
    have lk : k < 8 := by omega
    have loop : ∀ (t h : Nat) (I1 : Nat → Nat → Int32), h + t = n → foldS (chB n (okC A) m k r) (0, F00) h = (0, F00) → (∀ c j, c ≠ 79 → I1 c j = I c j) → (∀ i, i < k → I1 79 i = nI (r i)) → ∃ I', (∀ c j, c ≠ 79 → I' c j = I c j) ∧ (∀ i, i < k → I' 79 i = nI (r i)) ∧ (0 < (foldS (chB n (okC A) m k r) (0, F00) n).1 → ∀ i, i < 8 → I' 79 i = (foldS (chB n (okC A) m k r) (0, F00) n).2 i) ∧ ∀ Q, Rn sc (d + m + 3) 76 7 [some (.ref 72), some (.int (nI k)), some (.int (nI n)), some (.int (nI h))] [] (K0, I1, J, R1 T) Q = Q (some (.int (bI (0 < (foldS (chB n (okC A) m k r) (0, F00) n).1)))) (K0, I', J, R1 T) := by
      intro t
      induction t with
      | zero =>
        intro h I1 hh e f1 p1
        obtain rfl : h = n := by omega
        rw [e]
        refine ⟨I1, f1, p1, fun h => absurd h (Nat.lt_irrefl 0), fun Q => ?_⟩
        rw [bI_f (Nat.lt_irrefl 0), x76_7]
        simp (disch := first | assumption | omega | decide) only [x76_8, x76_9, x76_30, x76_31, ↓reduceIte, Option.toList, List.nil_append, List.cons_append, nI_add, pk_mul, n_and, n_or, n_xor, nI_leI, nI_ltI, nI_eq, n_z, uI_s, uI_n, bI_n0, bI_n1, bT, bF, if_true, if_false, not_true, not_false_eq_true, pk_div, pk_rem, Nat.reduceEqDiff, Nat.reduceLeDiff, Nat.reduceLT, Nat.reduceAdd, Nat.reduceMul, Nat.reduceSub, Nat.not_lt_zero, Nat.zero_le, reduceCtorEq, ite_self, n_rem, and_self, and_true, true_and, and_false, false_and, Nat.le_refl]
      | succ t iht =>
        intro h I1 hh e f1 p1
        have lh : ¬ n ≤ h := by omega
        have h4 : h < 4 := by omega
        obtain ⟨I2, eI⟩ : ∃ X, X = uI I1 79 k (nI h) := ⟨_, rfl⟩
        have f2 : ∀ c j, c ≠ 79 → I2 c j = I c j := fun c j hc => by rw [eI, uI_n (by omega)]; exact f1 c j hc
        have p2 : ∀ i, i < k → I2 79 i = nI (r i) := fun i hi => by rw [eI, uI_n (by omega)]; exact p1 i hi
        have z2 : I2 79 k = nI h := by rw [eI, uI_s]
        have eB2 : BsC I2 A := fun x hx => (f2 _ _ (by omega)).trans (eB x hx)
        have df := sp_differs (sc := sc) (d := d + m + 1) (J := J) (T := T) lk w eB2 (fun i hi => ⟨p2 i hi, (hp i hi).2⟩) z2 h4 k 0 (by omega) rfl
        have df0 : ∀ Q, Rn sc (d + m + 2) 77 0 [some (.ref 72), some (.int (nI k)), none] [] (K0, I2, J, R1 T) Q = Q (some (.int (bI (okC A k r h)))) (K0, I2, J, R1 T) := by
          intro Q
          rw [← df Q]
          simp (disch := first | assumption | omega | decide) only [x77_0, x77_1]
        have es := foldS_s (f := chB n (okC A) m k r) (s := (0, F00)) (h := h)
        rw [e] at es
        have q0 : ∀ Q, Rn sc (d + m + 3) 76 7 [some (.ref 72), some (.int (nI k)), some (.int (nI n)), some (.int (nI h))] [] (K0, I1, J, R1 T) Q = Rn sc (d + m + 3) 76 15 [some (.ref 72), some (.int (nI k)), some (.int (nI n)), some (.int (nI h))] [] (K0, I2, J, R1 T) Q := by
          intro Q
          rw [eI, x76_7]
          simp (disch := first | assumption | omega | decide) only [x76_8, x76_9, x76_10, x76_11, x76_12, x76_13, x76_14, ↓reduceIte, Option.toList, List.nil_append, List.cons_append, nI_add, pk_mul, n_and, n_or, n_xor, nI_leI, nI_ltI, nI_eq, n_z, uI_s, uI_n, bI_n0, bI_n1, bT, bF, if_true, if_false, not_true, not_false_eq_true, pk_div, pk_rem, Nat.reduceEqDiff, Nat.reduceLeDiff, Nat.reduceLT, Nat.reduceAdd, Nat.reduceMul, Nat.reduceSub, Nat.not_lt_zero, Nat.zero_le, reduceCtorEq, ite_self, n_rem, and_self, and_true, true_and, and_false, false_and, lh]
        by_cases c : okC A k r h
        · unfold chB at es
          rw [if_pos c] at es
          rw [bI_t c] at df0
          obtain ⟨I3, f3, p3, g3, q3⟩ := ih (k + 1) (upA r k h) I2 (by omega) eB2 (fun i hi => by
            by_cases e : i = k
            · rw [e, upA_s]; exact ⟨z2, h4⟩
            · rw [upA_n e]; exact ⟨p2 i (by omega), (hp i (by omega)).2⟩)
          have p3' : ∀ i, i < k → I3 79 i = nI (r i) := fun i hi => by rw [p3 i (by omega), upA_n (by omega)]
          by_cases c1 : 0 < (btA n (okC A) m (k + 1) (upA r k h) (0, F00)).1
          · have kp := fd_k (B := n) (ok := okC A) (n := m) (k := k) (j := h + 1) (r := r) (s := (0, F00)) (by
              show 0 < (foldS (chB n (okC A) m k r) (0, F00) (h + 1)).1
              unfold chB
              rw [es]
              exact c1) t
            rw [show h + 1 + t = n by omega] at kp
            refine ⟨I3, fun c j hc => (f3 c j hc).trans (f2 c j hc), p3', fun _ i hi => ?_, fun Q => ?_⟩
            · rw [kp.2]
              unfold chB
              rw [es]
              exact g3 c1 i hi
            · rw [bI_t kp.1, q0]
              rw [bI_t c1] at q3
              simp (disch := first | assumption | omega | decide) only [x76_15, x76_16, x76_17, x76_18, x76_19, x76_20, x76_21, x76_22, x76_23, x76_24, x76_25, x76_26, x76_27, ↓reduceIte, Option.toList, List.nil_append, List.cons_append, nI_add, pk_mul, n_and, n_or, n_xor, nI_leI, nI_ltI, nI_eq, n_z, uI_s, uI_n, bI_n0, bI_n1, bT, bF, if_true, if_false, not_true, not_false_eq_true, pk_div, pk_rem, Nat.reduceEqDiff, Nat.reduceLeDiff, Nat.reduceLT, Nat.reduceAdd, Nat.reduceMul, Nat.reduceSub, Nat.not_lt_zero, Nat.zero_le, reduceCtorEq, ite_self, n_rem, and_self, and_true, true_and, and_false, false_and, df0, q3]
          · have z0 : (btA n (okC A) m (k + 1) (upA r k h) (0, F00)).1 = 0 := by omega
            rw [bt_z _ _ _ _ z0] at es
            obtain ⟨I4, f4, p4, g4, q4⟩ := iht (h + 1) I3 (by omega) es (fun c j hc => (f3 c j hc).trans (f2 c j hc)) p3'
            refine ⟨I4, f4, p4, g4, fun Q => ?_⟩
            rw [← q4 Q, q0]
            rw [bI_f c1] at q3
            simp (disch := first | assumption | omega | decide) only [x76_15, x76_16, x76_17, x76_18, x76_19, x76_20, x76_21, x76_22, x76_23, x76_24, x76_25, x76_26, x76_27, x76_28, x76_29, ↓reduceIte, Option.toList, List.nil_append, List.cons_append, nI_add, pk_mul, n_and, n_or, n_xor, nI_leI, nI_ltI, nI_eq, n_z, uI_s, uI_n, bI_n0, bI_n1, bT, bF, if_true, if_false, not_true, not_false_eq_true, pk_div, pk_rem, Nat.reduceEqDiff, Nat.reduceLeDiff, Nat.reduceLT, Nat.reduceAdd, Nat.reduceMul, Nat.reduceSub, Nat.not_lt_zero, Nat.zero_le, reduceCtorEq, ite_self, n_rem, and_self, and_true, true_and, and_false, false_and, df0, q3]
        · unfold chB at es
          rw [if_neg c] at es
          obtain ⟨I4, f4, p4, g4, q4⟩ := iht (h + 1) I2 (by omega) es f2 p2
          refine ⟨I4, f4, p4, g4, fun Q => ?_⟩
          rw [← q4 Q, q0]
          simp (disch := first | assumption | omega | decide) only [x76_15, x76_16, x76_17, x76_18, x76_19, x76_20, x76_21, x76_22, x76_23, x76_24, x76_25, x76_26, x76_27, x76_28, x76_29, ↓reduceIte, Option.toList, List.nil_append, List.cons_append, nI_add, pk_mul, n_and, n_or, n_xor, nI_leI, nI_ltI, nI_eq, n_z, uI_s, uI_n, bI_n0, bI_n1, bT, bF, if_true, if_false, not_true, not_false_eq_true, pk_div, pk_rem, Nat.reduceEqDiff, Nat.reduceLeDiff, Nat.reduceLT, Nat.reduceAdd, Nat.reduceMul, Nat.reduceSub, Nat.not_lt_zero, Nat.zero_le, reduceCtorEq, ite_self, n_rem, and_self, and_true, true_and, and_false, false_and, df0, c]
    obtain ⟨I', h1, h2, h3, h4⟩ := loop n 0 I (by omega) rfl (fun _ _ _ => rfl) (fun i hi => (hp i hi).1)
    refine ⟨I', h1, h2, h3, fun Q => ?_⟩
    rw [bt_s, ← h4 Q]
    show Rn sc (d + m + 3) 76 0 _ _ _ _ = _
    have lk' : k < 8 := lk
    simp (disch := first | assumption | omega | decide) only [x76_0, x76_1, x76_2, x76_5, x76_6, ↓reduceIte, Option.toList, List.nil_append, List.cons_append, nI_add, pk_mul, n_and, n_or, n_xor, nI_leI, nI_ltI, nI_eq, n_z, uI_s, uI_n, bI_n0, bI_n1, bT, bF, if_true, if_false, not_true, not_false_eq_true, pk_div, pk_rem, Nat.reduceEqDiff, Nat.reduceLeDiff, Nat.reduceLT, Nat.reduceAdd, Nat.reduceMul, Nat.reduceSub, Nat.not_lt_zero, Nat.zero_le, reduceCtorEq, ite_self, n_rem, and_self, and_true, true_and, and_false, false_and, lk']
end Colour
