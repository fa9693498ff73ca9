/-! the class's reader: one, a choice, a question; all depths -/
theorem st_a {ys : List Nat} {y v : Nat} : ∀ xs : List Nat, (xs ++ y :: ys).set xs.length v = xs ++ v :: ys
  | [] => rfl
  | x :: xs => by
    show x :: ((xs ++ y :: ys).set xs.length v) = _
    rw [st_a xs]
    rfl
theorem gd_s {cs : List Nat} {a v j : Nat} (hj : j < cs.length) : (cs.set a v).getD j 0 = if j = a then v else cs.getD j 0 := by
  rw [List.getD_eq_getElem?_getD, List.getD_eq_getElem?_getD, List.getElem?_set]
  by_cases e : j = a
  · rw [if_pos e, if_pos e.symm, if_pos (by omega)]
    rfl
  · rw [if_neg e, if_neg (fun q => e q.symm)]
section ReadD
variable {sc : Sc} {d : Nat} {t : Nat} {b : Nat → Nat} {n L o : Nat} {J : Nat → Nat → Int64} {T : Option Nat}
theorem sp_land {I : Nat → Nat → Int32} {a w u : Nat} (ht : t < 4) (hu : I (47 + 5 * t) 1 = nI u) (h3 : u ≤ 300) (ha : a ≤ 300) : ∀ Q, Rn sc d 89 0 [some (.ref (47 + 5 * t)), some (.int (nI a)), some (.int (nI w))] [] (K0, I, J, R1 T) Q = Q none (K0, if a < u then uI I (48 + 5 * t) a (nI (w + (u - a - 1) * 64)) else I, J, R1 T) := by
  intro Q
  by_cases c : a < u
  · have c' : ¬ u ≤ a := by omega
    have e6 : nI (u - a - 1) <<< (nI 6 &&& 31) = nI ((u - a - 1) * 64) := n_shl (by omega) (by omega)
    have a3 : a < 300 := by omega
    rw [if_pos c]
    simp (disch := first | assumption | omega | decide) only [x89_0, x89_1, x89_2, x89_3r, x89_3n, x89_4 (a := 47 + 5 * t) (kd_t ht) (by omega), x89_5, x89_6r, x89_6n, x89_7 (a := 47 + 5 * t) (kd_t ht) (by omega), vr_0 ht, x89_8, x89_9, x89_10r, x89_10n, x89_11 (a := 47 + 5 * t) (kd_t ht) (by omega), x89_12, x89_13, x89_14, x89_15, x89_16, x89_17, x89_18, x89_19 (a := 48 + 5 * t) (n := 300) (by omega) (kd_c ht), x89_20, ↓reduceIte, Option.toList, List.nil_append, List.cons_append, nI_add, pk_mul, n_and, n_or, n_xor, nI_leI, nI_ltI, nI_eq, n_z, uI_s, uI_n, bI_n0, bI_n1, bT, bF, if_true, if_false, not_true, not_false_eq_true, pk_div, pk_rem, Nat.reduceEqDiff, Nat.reduceLeDiff, Nat.reduceLT, Nat.reduceAdd, Nat.reduceMul, Nat.reduceSub, Nat.not_lt_zero, Nat.zero_le, reduceCtorEq, ite_self, n_rem, and_self, and_true, true_and, and_false, false_and, hu, c', n_sub (show a ≤ u by omega), n_sub (show 1 ≤ u - a by omega), e6]
  · have c' : u ≤ a := by omega
    rw [if_neg c]
    simp (disch := first | assumption | omega | decide) only [x89_0, x89_1, x89_2, x89_3r, x89_3n, x89_4 (a := 47 + 5 * t) (kd_t ht) (by omega), x89_5, x89_20, ↓reduceIte, Option.toList, List.nil_append, List.cons_append, nI_add, pk_mul, n_and, n_or, n_xor, nI_leI, nI_ltI, nI_eq, n_z, uI_s, uI_n, bI_n0, bI_n1, bT, bF, if_true, if_false, not_true, not_false_eq_true, pk_div, pk_rem, Nat.reduceEqDiff, Nat.reduceLeDiff, Nat.reduceLT, Nat.reduceAdd, Nat.reduceMul, Nat.reduceSub, Nat.not_lt_zero, Nat.zero_le, reduceCtorEq, ite_self, n_rem, and_self, and_true, true_and, and_false, false_and, hu, c']
theorem lndD {I : Nat → Nat → Int32} {a w f x : Nat} (ht : t < 4) (h : DdC I t f x) (ha : a ≤ 300) : ∃ I', FrZ t I I' ∧ DdC I' t f x ∧ ∀ Q, Rn sc d 89 0 [some (.ref (47 + 5 * t)), some (.int (nI a)), some (.int (nI w))] [] (K0, I, J, R1 T) Q = Q none (K0, I', J, R1 T) := by
  obtain ⟨h2, h0, h7, h3, ⟨u, hu, h1⟩, κ, hk, h6⟩ := h
  refine ⟨_, ?_, ?_, sp_land ht h1 hu ha⟩
  · intro c k a1 a2 a3
    split
    · rw [uI_n (by omega)]
    · rfl
  · have g : ∀ c k, c ≠ 48 + 5 * t → (if a < u then uI I (48 + 5 * t) a (nI (w + (u - a - 1) * 64)) else I) c k = I c k := fun c k hc => by
      split
      · rw [uI_n (by omega)]
      · rfl
    exact ⟨(g _ _ (by omega)).trans h2, h0, h7, (g _ _ (by omega)).trans h3, ⟨u, hu, (g _ _ (by omega)).trans h1⟩, κ, hk, (g _ _ (by omega)).trans h6⟩
theorem lndL {I : Nat → Nat → Int32} {a w : Nat} {cs : List Nat} (ht : t < 4) (h : CdC I t cs) (hl : cs.length ≤ 300) (ha : a < cs.length) : ∃ I', (∀ c k, c ≠ 48 + 5 * t → (c ≠ 47 + 5 * t ∨ k ≠ 1) → I' c k = I c k) ∧ CdC I' t (cs.set a (w + (cs.length - a - 1) * 64)) ∧ ∀ Q, Rn sc d 89 0 [some (.ref (47 + 5 * t)), some (.int (nI a)), some (.int (nI w))] [] (K0, I, J, R1 T) Q = Q none (K0, I', J, R1 T) := by
  have q := fun Q => sp_land (sc := sc) (d := d) (J := J) (T := T) (w := w) ht h.1 hl (show a ≤ 300 by omega) Q
  rw [if_pos ha] at q
  refine ⟨_, ?_, ?_, q⟩
  · intro c k a2 a3
    rw [uI_n (by omega)]
  · refine ⟨?_, fun j hj => ?_⟩
    · rw [uI_n (by omega), List.length_set]
      exact h.1
    · rw [List.length_set] at hj
      rw [gd_s hj]
      by_cases e : j = a
      · rw [e, if_pos rfl, uI_s]
      · rw [if_neg e, uI_n (by omega)]
        exact h.2 j hj
theorem rnD {I : Nat → Nat → Int32} {f x lo hi : Nat} (h : DdC I t f x) : ∀ Q, Rn sc (d + 6) 37 0 [some (.ref 67), some (.int (nI lo)), some (.int (nI hi)), none] [] (K0, I, J, R1 T) Q = Q (some (.int (nI 0))) (K0, I, J, R1 T) := by
  intro Q
  have h2 := h.1
  have f0 : ¬ f = 0 := by
    have := h.2.1
    omega
  have f7 := h.2.2.1
  obtain ⟨κ, hk, h6⟩ := h.2.2.2.2.2
  have fd1 := sp_failD (sc := sc) (d := d + 5) (J := J) (T := T) (w := 1) h
  have fd2 := sp_failD (sc := sc) (d := d + 5) (J := J) (T := T) (w := 2) h
  by_cases c : κ = 41
  · simp (disch := first | assumption | omega | decide) only [x37_0, x37_1, x37_2, x37_3, x37_4, x37_5, x37_6, x37_7, x37_8, x37_9, x37_10, x37_11, x37_12, x37_13, x37_14, x37_15, x37_16, x37_17, x37_18, x37_19, x37_20, x37_21, x37_22, x37_23, x37_24, x37_25, x37_26, x37_27, x37_28, x37_29, ↓reduceIte, Option.toList, List.nil_append, List.cons_append, nI_add, pk_mul, n_and, n_or, n_xor, nI_leI, nI_ltI, nI_eq, n_z, uI_s, uI_n, bI_n0, bI_n1, bT, bF, if_true, if_false, not_true, not_false_eq_true, pk_div, pk_rem, Nat.reduceEqDiff, Nat.reduceLeDiff, Nat.reduceLT, Nat.reduceAdd, Nat.reduceMul, Nat.reduceSub, Nat.not_lt_zero, Nat.zero_le, reduceCtorEq, ite_self, n_rem, and_self, and_true, true_and, and_false, false_and, h2, f0, h6, c, fd2]
  · simp (disch := first | assumption | omega | decide) only [x37_0, x37_1, x37_2, x37_3, x37_4, x37_5, x37_6, x37_7, x37_8, x37_9, x37_10, x37_11, x37_12, x37_13, x37_14, x37_15, x37_16, x37_17, x37_18, x37_19, x37_20, x37_21, x37_22, x37_23, x37_24, x37_25, x37_26, x37_27, x37_28, x37_29, ↓reduceIte, Option.toList, List.nil_append, List.cons_append, nI_add, pk_mul, n_and, n_or, n_xor, nI_leI, nI_ltI, nI_eq, n_z, uI_s, uI_n, bI_n0, bI_n1, bT, bF, if_true, if_false, not_true, not_false_eq_true, pk_div, pk_rem, Nat.reduceEqDiff, Nat.reduceLeDiff, Nat.reduceLT, Nat.reduceAdd, Nat.reduceMul, Nat.reduceSub, Nat.not_lt_zero, Nat.zero_le, reduceCtorEq, ite_self, n_rem, and_self, and_true, true_and, and_false, false_and, h2, f0, h6, c, fd1]
/-- a number: its value, or the fault -/
def rdN (b : Nat → Nat) (n lo hi : Nat) (p : Nat) : Rs := if tK b n p = 41 then (if lo ≤ tV b n p ∧ tV b n p ≤ hi then .inr (([], []), tX b n p) else .inl (2, tS b n p)) else .inl (1, tS b n p)
theorem tV_le {p : Nat} : tV b n p ≤ 10000 := nv_le _
theorem rnL {I : Nat → Nat → Int32} {cs : List Nat} {p lo hi : Nat} (h : LvS I t b n L cs p) (hlo : lo < 2 ^ 31) (hhi : hi < 2 ^ 31) : ∃ I' v, FrZ t I I' ∧ StC I' t b n L (fin cs (rdN b n lo hi p)) ∧ ((tK b n p = 41 ∧ lo ≤ tV b n p ∧ tV b n p ≤ hi ∧ v = tV b n p) ∨ (¬ (tK b n p = 41 ∧ lo ≤ tV b n p ∧ tV b n p ≤ hi) ∧ v = 0)) ∧ ∀ Q, Rn sc (d + 6) 37 0 [some (.ref 67), some (.int (nI lo)), some (.int (nI hi)), none] [] (K0, I, J, R1 T) Q = Q (some (.int (nI v))) (K0, I', J, R1 T) := by
  have h2 := h.2.2.2.1
  have k6 := h.2.2.1.2.2.1
  have kl := tK_lt (b := b) (n := n) (p := p)
  have vl := tV_le (b := b) (n := n) (p := p)
  unfold rdN
  by_cases c : tK b n p = 41
  · have k7 := h.2.2.1.2.2.2 c
    have wi : ∀ Q, Rn sc (d + 5) 166 0 [some (.int (nI (tV b n p))), some (.int (nI lo)), some (.int (nI hi))] [] (K0, I, J, R1 T) Q = Q (some (.int (bI (nI lo ≤ nI (tV b n p) ∧ nI (tV b n p) ≤ nI hi)))) (K0, I, J, R1 T) := fun Q => sp_isWithin
    have wq : (nI lo ≤ nI (tV b n p) ∧ nI (tV b n p) ≤ nI hi) ↔ (lo ≤ tV b n p ∧ tV b n p ≤ hi) := by
      rw [nI_leI hlo (by omega), nI_leI (by omega) hhi]
    rw [if_pos c]
    rw [c] at k6
    by_cases c2 : lo ≤ tV b n p ∧ tV b n p ≤ hi
    · obtain ⟨I1, f1, l1, q1⟩ := nxL (sc := sc) (d := d) (J := J) (T := T) h
      rw [bI_t (wq.mpr c2)] at wi
      rw [if_pos c2]
      refine ⟨I1, tV b n p, f1, ?_, Or.inl ⟨c, c2.1, c2.2, rfl⟩, fun Q => ?_⟩
      · rw [fin_r, List.append_nil]
        exact l1
      · simp (disch := first | assumption | omega | decide) only [x37_0, x37_1, x37_2, x37_3, x37_4, x37_5, x37_6, x37_7, x37_8, x37_9, x37_10, x37_11, x37_12, x37_13, x37_14, x37_15, x37_16, x37_17, x37_18, x37_19, x37_20, x37_21, x37_22, x37_23, x37_24, x37_25, x37_26, x37_27, x37_28, x37_29, ↓reduceIte, Option.toList, List.nil_append, List.cons_append, nI_add, pk_mul, n_and, n_or, n_xor, nI_leI, nI_ltI, nI_eq, n_z, uI_s, uI_n, bI_n0, bI_n1, bT, bF, if_true, if_false, not_true, not_false_eq_true, pk_div, pk_rem, Nat.reduceEqDiff, Nat.reduceLeDiff, Nat.reduceLT, Nat.reduceAdd, Nat.reduceMul, Nat.reduceSub, Nat.not_lt_zero, Nat.zero_le, reduceCtorEq, ite_self, n_rem, and_self, and_true, true_and, and_false, false_and, h2, k6, k7, wi, q1]
    · obtain ⟨I1, f1, d1, q1⟩ := sp_failL (sc := sc) (d := d + 5) (J := J) (T := T) (w := 2) (by omega) h
      rw [bI_f (fun q => c2 (wq.mp q))] at wi
      rw [if_neg c2]
      refine ⟨I1, 0, f1, d1, Or.inr ⟨fun q => c2 q.2, rfl⟩, fun Q => ?_⟩
      simp (disch := first | assumption | omega | decide) only [x37_0, x37_1, x37_2, x37_3, x37_4, x37_5, x37_6, x37_7, x37_8, x37_9, x37_10, x37_11, x37_12, x37_13, x37_14, x37_15, x37_16, x37_17, x37_18, x37_19, x37_20, x37_21, x37_22, x37_23, x37_24, x37_25, x37_26, x37_27, x37_28, x37_29, ↓reduceIte, Option.toList, List.nil_append, List.cons_append, nI_add, pk_mul, n_and, n_or, n_xor, nI_leI, nI_ltI, nI_eq, n_z, uI_s, uI_n, bI_n0, bI_n1, bT, bF, if_true, if_false, not_true, not_false_eq_true, pk_div, pk_rem, Nat.reduceEqDiff, Nat.reduceLeDiff, Nat.reduceLT, Nat.reduceAdd, Nat.reduceMul, Nat.reduceSub, Nat.not_lt_zero, Nat.zero_le, reduceCtorEq, ite_self, n_rem, and_self, and_true, true_and, and_false, false_and, h2, k6, k7, wi, q1]
  · obtain ⟨I1, f1, d1, q1⟩ := sp_failL (sc := sc) (d := d + 5) (J := J) (T := T) (w := 1) (by omega) h
    rw [if_neg c]
    refine ⟨I1, 0, f1, d1, Or.inr ⟨fun q => c q.1, rfl⟩, fun Q => ?_⟩
    simp (disch := first | assumption | omega | decide) only [x37_0, x37_1, x37_2, x37_3, x37_4, x37_5, x37_6, x37_7, x37_8, x37_9, x37_10, x37_11, x37_12, x37_13, x37_14, x37_15, x37_16, x37_17, x37_18, x37_19, x37_20, x37_21, x37_22, x37_23, x37_24, x37_25, x37_26, x37_27, x37_28, x37_29, ↓reduceIte, Option.toList, List.nil_append, List.cons_append, nI_add, pk_mul, n_and, n_or, n_xor, nI_leI, nI_ltI, nI_eq, n_z, uI_s, uI_n, bI_n0, bI_n1, bT, bF, if_true, if_false, not_true, not_false_eq_true, pk_div, pk_rem, Nat.reduceEqDiff, Nat.reduceLeDiff, Nat.reduceLT, Nat.reduceAdd, Nat.reduceMul, Nat.reduceSub, Nat.not_lt_zero, Nat.zero_le, reduceCtorEq, ite_self, n_rem, and_self, and_true, true_and, and_false, false_and, h2, k6, c, q1]
theorem sp_rname {I : Nat → Nat → Int32} {cs : List Nat} {p : Nat} (ht : t < 4) (hL2 : L < 2) (h : LvS I t b n L cs p) (hk : 7 ≤ tK b n p ∧ tK b n p ≤ 15) : ∃ I', FrZ t I I' ∧ StC I' t b n L (fin cs (if (L = 0 ∧ (tK b n p = 14 ∨ tK b n p = 15)) ∨ (L = 1 ∧ tK b n p = 13) then .inl (5, tS b n p) else .inr (([tK b n p], [(1, kw (tK b n p))]), tX b n p))) ∧ ∀ Q, Rn sc (d + 6) 41 0 [some (.ref 67), none] [] (K0, I, J, R1 (some (47 + 5 * t))) Q = Q none (K0, I', J, R1 (some (47 + 5 * t))) := by
  have k6 := h.2.2.1.2.2.1
  have h8 := h.2.2.2.2.1
  have kl := tK_lt (b := b) (n := n) (p := p)
  obtain ⟨tk1, tk2⟩ := tk_st h.2.1 (show tK b n p ≠ 42 by omega)
  have n3 := h.1.1
  have hl := h.2.2.2.2.2.2.1
  have sl := (tS_le (b := b) tk1).2
  have good : ¬ ((L = 0 ∧ (tK b n p = 14 ∨ tK b n p = 15)) ∨ (L = 1 ∧ tK b n p = 13)) → ∃ I', FrZ t I I' ∧ LvS I' t b n L (cs ++ [tK b n p]) (tX b n p) ∧ ∀ Q, Rn sc (d + 6) 41 29 [some (.ref 67), some (.int (bI (tK b n p = 14 ∨ tK b n p = 15)))] [] (K0, I, J, R1 (some (47 + 5 * t))) Q = Q none (K0, I', J, R1 (some (47 + 5 * t))) := fun _ => by
    obtain ⟨I1, f1, c1, q1⟩ := emL (sc := sc) (d := d + 5) (J := J) (T := some (47 + 5 * t)) (w := tK b n p) (v := 0) ht h.2.2.2.2.2.1 (by omega) (by omega)
    rw [Nat.zero_mul, Nat.add_zero] at c1
    obtain ⟨hT, hp, ⟨k4, k5, k6', k7⟩, h2, h8', -, hz⟩ := h
    have g : ∀ k, I1 67 k = I 67 k := fun k => f1 67 k (by omega) (by omega)
    have hT1 : TpC I1 b n := ⟨hT.1, (g 1).trans hT.2.1, fun k hk => ⟨(f1 68 k (by omega) (by omega)).trans (hT.2.2 k hk).1, (hT.2.2 k hk).2⟩⟩
    obtain ⟨I2, f2, t2, q2⟩ := sp_next (sc := sc) (d := d) (J := J) (T := some (47 + 5 * t)) hT1 tk1 ((g 4).trans k4)
    refine ⟨I2, FrZ_t (fun c k a1 a2 a3 => f1 c k a2 a3) (FrZ_f f2), ⟨TpC_c hT1 f2, tk1, t2, (f2 _ _ (by omega)).trans ((g 2).trans h2), (f2 _ _ (by omega)).trans ((g 8).trans h8'), CdC_c c1 (f2 _ _ (by omega)) (fun k => f2 _ _ (by omega)), ?_, (f2 _ _ (by omega)).trans ((g 3).trans hz.2)⟩, fun Q => ?_⟩
    · rw [List.length_append, List.length_cons, List.length_nil]
      omega
    · simp (disch := first | assumption | omega | decide) only [x41_29, x41_30, x41_31, x41_32, x41_33, x41_35, x41_36, x41_37, x41_34r (a0 := 47 + 5 * t) (by omega) (kd_t ht), ↓reduceIte, Option.toList, List.nil_append, List.cons_append, nI_add, pk_mul, n_and, n_or, n_xor, nI_leI, nI_ltI, nI_eq, n_z, uI_s, uI_n, bI_n0, bI_n1, bT, bF, if_true, if_false, not_true, not_false_eq_true, pk_div, pk_rem, Nat.reduceEqDiff, Nat.reduceLeDiff, Nat.reduceLT, Nat.reduceAdd, Nat.reduceMul, Nat.reduceSub, Nat.not_lt_zero, Nat.zero_le, reduceCtorEq, ite_self, n_rem, and_self, and_true, true_and, and_false, false_and, valR, k6, q1, q2]
  have bad := sp_failL (sc := sc) (d := d + 5) (J := J) (T := some (47 + 5 * t)) (w := 5) (by omega) h
  have hL3 : L = 0 ∨ L = 1 := by omega
  by_cases c1 : tK b n p = 14 ∨ tK b n p = 15
  · have n13 : ¬ tK b n p = 13 := by omega
    rcases hL3 with l0 | l0
    · obtain ⟨I1, f1, d1, q1⟩ := bad
      rw [if_pos (Or.inl ⟨l0, c1⟩)]
      refine ⟨I1, f1, d1, fun Q => ?_⟩
      rw [l0] at h8
      rcases c1 with c1 | c1
      · simp (disch := first | assumption | omega | decide) only [x41_0, x41_1, x41_2, x41_3, x41_4, x41_5, x41_6, x41_7, x41_8, x41_9, x41_10, x41_11, x41_12, x41_13, x41_14, x41_15, x41_16, x41_17, x41_18, x41_19, x41_20, x41_21, x41_22, x41_23, x41_24, x41_25, x41_26, x41_27, x41_28, ↓reduceIte, Option.toList, List.nil_append, List.cons_append, nI_add, pk_mul, n_and, n_or, n_xor, nI_leI, nI_ltI, nI_eq, n_z, uI_s, uI_n, bI_n0, bI_n1, bT, bF, if_true, if_false, not_true, not_false_eq_true, pk_div, pk_rem, Nat.reduceEqDiff, Nat.reduceLeDiff, Nat.reduceLT, Nat.reduceAdd, Nat.reduceMul, Nat.reduceSub, Nat.not_lt_zero, Nat.zero_le, reduceCtorEq, ite_self, n_rem, and_self, and_true, true_and, and_false, false_and, k6, c1, h8, q1]
      · simp (disch := first | assumption | omega | decide) only [x41_0, x41_1, x41_2, x41_3, x41_4, x41_5, x41_6, x41_7, x41_8, x41_9, x41_10, x41_11, x41_12, x41_13, x41_14, x41_15, x41_16, x41_17, x41_18, x41_19, x41_20, x41_21, x41_22, x41_23, x41_24, x41_25, x41_26, x41_27, x41_28, ↓reduceIte, Option.toList, List.nil_append, List.cons_append, nI_add, pk_mul, n_and, n_or, n_xor, nI_leI, nI_ltI, nI_eq, n_z, uI_s, uI_n, bI_n0, bI_n1, bT, bF, if_true, if_false, not_true, not_false_eq_true, pk_div, pk_rem, Nat.reduceEqDiff, Nat.reduceLeDiff, Nat.reduceLT, Nat.reduceAdd, Nat.reduceMul, Nat.reduceSub, Nat.not_lt_zero, Nat.zero_le, reduceCtorEq, ite_self, n_rem, and_self, and_true, true_and, and_false, false_and, k6, c1, h8, q1]
    · have cn : ¬ ((L = 0 ∧ (tK b n p = 14 ∨ tK b n p = 15)) ∨ (L = 1 ∧ tK b n p = 13)) := by omega
      obtain ⟨I1, f1, d1, q1⟩ := good cn
      rw [if_neg cn]
      refine ⟨I1, f1, d1, fun Q => ?_⟩
      rw [l0] at h8
      rw [← q1 Q, bI_t c1]
      rcases c1 with c1 | c1
      · simp (disch := first | assumption | omega | decide) only [x41_0, x41_1, x41_2, x41_3, x41_4, x41_5, x41_6, x41_7, x41_8, x41_9, x41_10, x41_11, x41_12, x41_13, x41_14, x41_15, x41_16, x41_17, x41_18, x41_19, x41_20, x41_21, x41_22, x41_23, x41_24, ↓reduceIte, Option.toList, List.nil_append, List.cons_append, nI_add, pk_mul, n_and, n_or, n_xor, nI_leI, nI_ltI, nI_eq, n_z, uI_s, uI_n, bI_n0, bI_n1, bT, bF, if_true, if_false, not_true, not_false_eq_true, pk_div, pk_rem, Nat.reduceEqDiff, Nat.reduceLeDiff, Nat.reduceLT, Nat.reduceAdd, Nat.reduceMul, Nat.reduceSub, Nat.not_lt_zero, Nat.zero_le, reduceCtorEq, ite_self, n_rem, and_self, and_true, true_and, and_false, false_and, k6, c1, h8]
      · simp (disch := first | assumption | omega | decide) only [x41_0, x41_1, x41_2, x41_3, x41_4, x41_5, x41_6, x41_7, x41_8, x41_9, x41_10, x41_11, x41_12, x41_13, x41_14, x41_15, x41_16, x41_17, x41_18, x41_19, x41_20, x41_21, x41_22, x41_23, x41_24, ↓reduceIte, Option.toList, List.nil_append, List.cons_append, nI_add, pk_mul, n_and, n_or, n_xor, nI_leI, nI_ltI, nI_eq, n_z, uI_s, uI_n, bI_n0, bI_n1, bT, bF, if_true, if_false, not_true, not_false_eq_true, pk_div, pk_rem, Nat.reduceEqDiff, Nat.reduceLeDiff, Nat.reduceLT, Nat.reduceAdd, Nat.reduceMul, Nat.reduceSub, Nat.not_lt_zero, Nat.zero_le, reduceCtorEq, ite_self, n_rem, and_self, and_true, true_and, and_false, false_and, k6, c1, h8]
  · have a1 : ¬ tK b n p = 14 := fun q => c1 (Or.inl q)
    have a2 : ¬ tK b n p = 15 := fun q => c1 (Or.inr q)
    by_cases c3 : L = 1 ∧ tK b n p = 13
    · obtain ⟨I1, f1, d1, q1⟩ := bad
      obtain ⟨l0, c4⟩ := c3
      rw [if_pos (Or.inr ⟨l0, c4⟩)]
      refine ⟨I1, f1, d1, fun Q => ?_⟩
      rw [l0] at h8
      simp (disch := first | assumption | omega | decide) only [x41_0, x41_1, x41_2, x41_3, x41_4, x41_5, x41_6, x41_7, x41_8, x41_9, x41_10, x41_11, x41_12, x41_13, x41_14, x41_15, x41_16, x41_17, x41_18, x41_19, x41_20, x41_21, x41_22, x41_23, x41_24, x41_25, x41_26, x41_27, x41_28, ↓reduceIte, Option.toList, List.nil_append, List.cons_append, nI_add, pk_mul, n_and, n_or, n_xor, nI_leI, nI_ltI, nI_eq, n_z, uI_s, uI_n, bI_n0, bI_n1, bT, bF, if_true, if_false, not_true, not_false_eq_true, pk_div, pk_rem, Nat.reduceEqDiff, Nat.reduceLeDiff, Nat.reduceLT, Nat.reduceAdd, Nat.reduceMul, Nat.reduceSub, Nat.not_lt_zero, Nat.zero_le, reduceCtorEq, ite_self, n_rem, and_self, and_true, true_and, and_false, false_and, k6, c4, h8, q1]
    · have cn : ¬ ((L = 0 ∧ (tK b n p = 14 ∨ tK b n p = 15)) ∨ (L = 1 ∧ tK b n p = 13)) := by omega
      obtain ⟨I1, f1, d1, q1⟩ := good cn
      rw [if_neg cn]
      refine ⟨I1, f1, d1, fun Q => ?_⟩
      rw [← q1 Q, bI_f c1]
      rcases hL3 with l0 | l0
      · rw [l0] at h8
        simp (disch := first | assumption | omega | decide) only [x41_0, x41_1, x41_2, x41_3, x41_4, x41_5, x41_6, x41_7, x41_8, x41_9, x41_10, x41_11, x41_12, x41_13, x41_14, x41_15, x41_16, x41_17, x41_18, x41_19, x41_20, x41_21, x41_22, x41_23, x41_24, ↓reduceIte, Option.toList, List.nil_append, List.cons_append, nI_add, pk_mul, n_and, n_or, n_xor, nI_leI, nI_ltI, nI_eq, n_z, uI_s, uI_n, bI_n0, bI_n1, bT, bF, if_true, if_false, not_true, not_false_eq_true, pk_div, pk_rem, Nat.reduceEqDiff, Nat.reduceLeDiff, Nat.reduceLT, Nat.reduceAdd, Nat.reduceMul, Nat.reduceSub, Nat.not_lt_zero, Nat.zero_le, reduceCtorEq, ite_self, n_rem, and_self, and_true, true_and, and_false, false_and, k6, a1, a2, h8]
      · have n13 : ¬ tK b n p = 13 := fun q => c3 ⟨l0, q⟩
        rw [l0] at h8
        simp (disch := first | assumption | omega | decide) only [x41_0, x41_1, x41_2, x41_3, x41_4, x41_5, x41_6, x41_7, x41_8, x41_9, x41_10, x41_11, x41_12, x41_13, x41_14, x41_15, x41_16, x41_17, x41_18, x41_19, x41_20, x41_21, x41_22, x41_23, x41_24, ↓reduceIte, Option.toList, List.nil_append, List.cons_append, nI_add, pk_mul, n_and, n_or, n_xor, nI_leI, nI_ltI, nI_eq, n_z, uI_s, uI_n, bI_n0, bI_n1, bT, bF, if_true, if_false, not_true, not_false_eq_true, pk_div, pk_rem, Nat.reduceEqDiff, Nat.reduceLeDiff, Nat.reduceLT, Nat.reduceAdd, Nat.reduceMul, Nat.reduceSub, Nat.not_lt_zero, Nat.zero_le, reduceCtorEq, ite_self, n_rem, and_self, and_true, true_and, and_false, false_and, k6, a1, a2, h8, n13]
/-- what readOpened must do -/
def OpS (sc : Sc) (e t : Nat) (b : Nat → Nat) (n L o : Nat) (opn : Nat → Rs) : Prop := ∀ (I : Nat → Nat → Int32) (J : Nat → Nat → Int64) (cs : List Nat) (p : Nat), LvS I t b n L cs p → (tK b n p = 36 ∨ tK b n p = 33 ∨ tK b n p = 19 ∨ tK b n p = 20 ∨ tK b n p = 21) → ∃ I', FrZ t I I' ∧ StC I' t b n L (fin cs (opn p)) ∧ ∀ Q, Rn sc e 42 0 [some (.ref 67), some (.int (nI o)), none] [] (K0, I, J, R1 (some (47 + 5 * t))) Q = Q none (K0, I', J, R1 (some (47 + 5 * t)))
theorem ms_one {opn : Nat → Rs} (ht : t < 4) (hL2 : L < 2) (ho : OpS sc (d + 7) t b n L (o + 1) opn) : MS sc (d + 8) (some (47 + 5 * t)) t b n L 40 [some (.ref 67), some (.int (nI o))] (oneS b n L opn) := by
  intro I J st hst
  rcases st with ⟨f, x⟩ | ⟨cs, p⟩
  · have h2 := hst.1
    have f0 : ¬ f = 0 := by
      have := hst.2.1
      omega
    have f7 := hst.2.2.1
    refine ⟨I, FrZ_r, hst, fun Q => ?_⟩
    simp (disch := first | assumption | omega | decide) only [x40_0, x40_1, x40_2, x40_3, x40_4, x40_5, x40_6, x40_7, x40_8, x40_9, x40_10, x40_11, x40_12, x40_13, x40_14, x40_15r, x40_16, x40_17, x40_18, x40_19, x40_20, x40_21, x40_22, x40_23, x40_24, x40_25, x40_26, x40_27, x40_28, x40_29, x40_30, x40_31, x40_32, x40_33, x40_34, x40_35, x40_36, x40_37, x40_38, x40_39, x40_40, x40_41, x40_42, x40_43, x40_44, x40_45, x40_46, x40_47, x40_48, x40_49, x40_50, x40_51, x40_52, x40_53, x40_54, x40_55, x40_56, x40_57, ↓reduceIte, Option.toList, List.nil_append, List.cons_append, nI_add, pk_mul, n_and, n_or, n_xor, nI_leI, nI_ltI, nI_eq, n_z, uI_s, uI_n, bI_n0, bI_n1, bT, bF, if_true, if_false, not_true, not_false_eq_true, pk_div, pk_rem, Nat.reduceEqDiff, Nat.reduceLeDiff, Nat.reduceLT, Nat.reduceAdd, Nat.reduceMul, Nat.reduceSub, Nat.not_lt_zero, Nat.zero_le, reduceCtorEq, ite_self, n_rem, and_self, and_true, true_and, and_false, false_and, h2, f0]
  · have h : LvS I t b n L cs p := hst
    have h2 := h.2.2.2.1
    have k6 := h.2.2.1.2.2.1
    have kl := tK_lt (b := b) (n := n) (p := p)
    rw [ap_r]
    unfold oneS
    by_cases c1 : tK b n p = 41
    · obtain ⟨tk1, tk2⟩ := tk_st h.2.1 (show tK b n p ≠ 42 by omega)
      obtain ⟨I1, v, f1, s1, hv, q1⟩ := rnL (sc := sc) (d := d + 1) (J := J) (T := some (47 + 5 * t)) (lo := 0) (hi := 9999) h (by omega) (by omega)
      rw [if_pos c1]
      unfold rdN at s1
      rw [if_pos c1] at s1
      rw [c1] at k6
      by_cases c2 : tV b n p ≤ 9999
      · have ev : v = tV b n p := by
          rcases hv with hv | hv
          · exact hv.2.2.2
          · exact absurd ⟨c1, Nat.zero_le _, c2⟩ hv.1
        rw [if_pos ⟨Nat.zero_le _, c2⟩, fin_r, List.append_nil] at s1
        have s1 : LvS I1 t b n L cs (tX b n p) := s1
        have hl := h.2.2.2.2.2.2.1
        have sl := (tS_le (b := b) tk1).2
        have n3 := h.1.1
        obtain ⟨I2, f2, c2', q2⟩ := emL (sc := sc) (d := d + 7) (J := J) (T := some (47 + 5 * t)) (w := 41) (v := tV b n p) ht s1.2.2.2.2.2.1 (by omega) (by omega)
        rw [if_pos c2, fin_r]
        refine ⟨I2, FrZ_t f1 (fun c k a1 a2 a3 => f2 c k a2 a3), LvS_e s1 f2 ht c2' ?_, fun Q => ?_⟩
        · rw [List.length_append, List.length_cons, List.length_nil]
          omega
        · rw [ev] at q1
          simp (disch := first | assumption | omega | decide) only [x40_0, x40_1, x40_2, x40_3, x40_4, x40_5, x40_6, x40_7, x40_8, x40_9, x40_10, x40_11, x40_12, x40_13, x40_14, x40_16, x40_17, x40_18, x40_19, x40_20, x40_21, x40_22, x40_23, x40_24, x40_25, x40_26, x40_27, x40_28, x40_29, x40_30, x40_31, x40_32, x40_33, x40_34, x40_35, x40_36, x40_37, x40_38, x40_39, x40_40, x40_41, x40_42, x40_43, x40_44, x40_45, x40_46, x40_47, x40_48, x40_49, x40_50, x40_51, x40_52, x40_53, x40_54, x40_55, x40_56, x40_57, x40_15r (a0 := 47 + 5 * t) (by omega) (kd_t ht), ↓reduceIte, Option.toList, List.nil_append, List.cons_append, nI_add, pk_mul, n_and, n_or, n_xor, nI_leI, nI_ltI, nI_eq, n_z, uI_s, uI_n, bI_n0, bI_n1, bT, bF, if_true, if_false, not_true, not_false_eq_true, pk_div, pk_rem, Nat.reduceEqDiff, Nat.reduceLeDiff, Nat.reduceLT, Nat.reduceAdd, Nat.reduceMul, Nat.reduceSub, Nat.not_lt_zero, Nat.zero_le, reduceCtorEq, ite_self, n_rem, and_self, and_true, true_and, and_false, false_and, valR, h2, k6, q1, q2]
      · have ev : v = 0 := by
          rcases hv with hv | hv
          · exact absurd hv.2.2.1 c2
          · exact hv.2
        rw [if_neg (fun q => c2 q.2), fin_l] at s1
        have s1 : DdC I1 t 2 (tS b n p) := s1
        obtain ⟨I2, f2, d2, q2⟩ := emD (sc := sc) (d := d + 7) (J := J) (T := some (47 + 5 * t)) (u := 0) (w := 41) (v := 0) ht s1 (by omega)
        rw [if_neg c2, fin_l]
        refine ⟨I2, FrZ_t f1 f2, d2, fun Q => ?_⟩
        rw [ev] at q1
        simp (disch := first | assumption | omega | decide) only [x40_0, x40_1, x40_2, x40_3, x40_4, x40_5, x40_6, x40_7, x40_8, x40_9, x40_10, x40_11, x40_12, x40_13, x40_14, x40_16, x40_17, x40_18, x40_19, x40_20, x40_21, x40_22, x40_23, x40_24, x40_25, x40_26, x40_27, x40_28, x40_29, x40_30, x40_31, x40_32, x40_33, x40_34, x40_35, x40_36, x40_37, x40_38, x40_39, x40_40, x40_41, x40_42, x40_43, x40_44, x40_45, x40_46, x40_47, x40_48, x40_49, x40_50, x40_51, x40_52, x40_53, x40_54, x40_55, x40_56, x40_57, x40_15r (a0 := 47 + 5 * t) (by omega) (kd_t ht), ↓reduceIte, Option.toList, List.nil_append, List.cons_append, nI_add, pk_mul, n_and, n_or, n_xor, nI_leI, nI_ltI, nI_eq, n_z, uI_s, uI_n, bI_n0, bI_n1, bT, bF, if_true, if_false, not_true, not_false_eq_true, pk_div, pk_rem, Nat.reduceEqDiff, Nat.reduceLeDiff, Nat.reduceLT, Nat.reduceAdd, Nat.reduceMul, Nat.reduceSub, Nat.not_lt_zero, Nat.zero_le, reduceCtorEq, ite_self, n_rem, and_self, and_true, true_and, and_false, false_and, valR, h2, k6, q1, q2]
    · rw [if_neg c1]
      by_cases c2 : 7 ≤ tK b n p ∧ tK b n p ≤ 15
      · obtain ⟨I1, f1, s1, q1⟩ := sp_rname (sc := sc) (d := d + 1) (J := J) ht hL2 h c2
        rw [if_pos c2]
        refine ⟨I1, f1, s1, fun Q => ?_⟩
        have a1 : ¬ tK b n p < 7 := by omega
        have a2 : ¬ 15 < tK b n p := by omega
        simp (disch := first | assumption | omega | decide) only [x40_0, x40_1, x40_2, x40_3, x40_4, x40_5, x40_6, x40_7, x40_8, x40_9, x40_10, x40_11, x40_12, x40_13, x40_14, x40_16, x40_17, x40_18, x40_19, x40_20, x40_21, x40_22, x40_23, x40_24, x40_25, x40_26, x40_27, x40_28, x40_29, x40_30, x40_31, x40_32, x40_33, x40_34, x40_35, x40_36, x40_37, x40_38, x40_39, x40_40, x40_41, x40_42, x40_43, x40_44, x40_45, x40_46, x40_47, x40_48, x40_49, x40_50, x40_51, x40_52, x40_53, x40_54, x40_55, x40_56, x40_57, ↓reduceIte, Option.toList, List.nil_append, List.cons_append, nI_add, pk_mul, n_and, n_or, n_xor, nI_leI, nI_ltI, nI_eq, n_z, uI_s, uI_n, bI_n0, bI_n1, bT, bF, if_true, if_false, not_true, not_false_eq_true, pk_div, pk_rem, Nat.reduceEqDiff, Nat.reduceLeDiff, Nat.reduceLT, Nat.reduceAdd, Nat.reduceMul, Nat.reduceSub, Nat.not_lt_zero, Nat.zero_le, reduceCtorEq, ite_self, n_rem, and_self, and_true, true_and, and_false, false_and, h2, k6, c1, a1, a2, q1]
      · rw [if_neg c2]
        by_cases c3 : tK b n p = 36 ∨ tK b n p = 33 ∨ tK b n p = 19 ∨ tK b n p = 20 ∨ tK b n p = 21
        · obtain ⟨I1, f1, s1, q1⟩ := ho I J cs p h c3
          rw [if_pos c3]
          refine ⟨I1, f1, s1, fun Q => ?_⟩
          rcases c3 with c3 | c3 | c3 | c3 | c3 <;> rw [c3] at k6 <;> simp (disch := first | assumption | omega | decide) only [x40_0, x40_1, x40_2, x40_3, x40_4, x40_5, x40_6, x40_7, x40_8, x40_9, x40_10, x40_11, x40_12, x40_13, x40_14, x40_16, x40_17, x40_18, x40_19, x40_20, x40_21, x40_22, x40_23, x40_24, x40_25, x40_26, x40_27, x40_28, x40_29, x40_30, x40_31, x40_32, x40_33, x40_34, x40_35, x40_36, x40_37, x40_38, x40_39, x40_40, x40_41, x40_42, x40_43, x40_44, x40_45, x40_46, x40_47, x40_48, x40_49, x40_50, x40_51, x40_52, x40_53, x40_54, x40_55, x40_56, x40_57, ↓reduceIte, Option.toList, List.nil_append, List.cons_append, nI_add, pk_mul, n_and, n_or, n_xor, nI_leI, nI_ltI, nI_eq, n_z, uI_s, uI_n, bI_n0, bI_n1, bT, bF, if_true, if_false, not_true, not_false_eq_true, pk_div, pk_rem, Nat.reduceEqDiff, Nat.reduceLeDiff, Nat.reduceLT, Nat.reduceAdd, Nat.reduceMul, Nat.reduceSub, Nat.not_lt_zero, Nat.zero_le, reduceCtorEq, ite_self, n_rem, and_self, and_true, true_and, and_false, false_and, h2, k6, q1]
        · obtain ⟨I1, f1, d1, q1⟩ := sp_failL (sc := sc) (d := d + 7) (J := J) (T := some (47 + 5 * t)) (w := 1) (by omega) h
          rw [if_neg c3]
          refine ⟨I1, f1, d1, fun Q => ?_⟩
          have b1 : ¬ tK b n p = 36 := by omega
          have b2 : ¬ tK b n p = 33 := by omega
          have b3 : ¬ tK b n p = 19 := by omega
          have b4 : ¬ tK b n p = 20 := by omega
          have b5 : ¬ tK b n p = 21 := by omega
          by_cases a1 : tK b n p < 7
          · simp (disch := first | assumption | omega | decide) only [x40_0, x40_1, x40_2, x40_3, x40_4, x40_5, x40_6, x40_7, x40_8, x40_9, x40_10, x40_11, x40_12, x40_13, x40_14, x40_16, x40_17, x40_18, x40_19, x40_20, x40_21, x40_22, x40_23, x40_24, x40_25, x40_26, x40_27, x40_28, x40_29, x40_30, x40_31, x40_32, x40_33, x40_34, x40_35, x40_36, x40_37, x40_38, x40_39, x40_40, x40_41, x40_42, x40_43, x40_44, x40_45, x40_46, x40_47, x40_48, x40_49, x40_50, x40_51, x40_52, x40_53, x40_54, x40_55, x40_56, x40_57, ↓reduceIte, Option.toList, List.nil_append, List.cons_append, nI_add, pk_mul, n_and, n_or, n_xor, nI_leI, nI_ltI, nI_eq, n_z, uI_s, uI_n, bI_n0, bI_n1, bT, bF, if_true, if_false, not_true, not_false_eq_true, pk_div, pk_rem, Nat.reduceEqDiff, Nat.reduceLeDiff, Nat.reduceLT, Nat.reduceAdd, Nat.reduceMul, Nat.reduceSub, Nat.not_lt_zero, Nat.zero_le, reduceCtorEq, ite_self, n_rem, and_self, and_true, true_and, and_false, false_and, h2, k6, c1, a1, b1, b2, b3, b4, b5, q1]
          · have a2 : 15 < tK b n p := by omega
            simp (disch := first | assumption | omega | decide) only [x40_0, x40_1, x40_2, x40_3, x40_4, x40_5, x40_6, x40_7, x40_8, x40_9, x40_10, x40_11, x40_12, x40_13, x40_14, x40_16, x40_17, x40_18, x40_19, x40_20, x40_21, x40_22, x40_23, x40_24, x40_25, x40_26, x40_27, x40_28, x40_29, x40_30, x40_31, x40_32, x40_33, x40_34, x40_35, x40_36, x40_37, x40_38, x40_39, x40_40, x40_41, x40_42, x40_43, x40_44, x40_45, x40_46, x40_47, x40_48, x40_49, x40_50, x40_51, x40_52, x40_53, x40_54, x40_55, x40_56, x40_57, ↓reduceIte, Option.toList, List.nil_append, List.cons_append, nI_add, pk_mul, n_and, n_or, n_xor, nI_leI, nI_ltI, nI_eq, n_z, uI_s, uI_n, bI_n0, bI_n1, bT, bF, if_true, if_false, not_true, not_false_eq_true, pk_div, pk_rem, Nat.reduceEqDiff, Nat.reduceLeDiff, Nat.reduceLT, Nat.reduceAdd, Nat.reduceMul, Nat.reduceSub, Nat.not_lt_zero, Nat.zero_le, reduceCtorEq, ite_self, n_rem, and_self, and_true, true_and, and_false, false_and, h2, k6, c1, a1, a2, b1, b2, b3, b4, b5, q1]
end ReadD
