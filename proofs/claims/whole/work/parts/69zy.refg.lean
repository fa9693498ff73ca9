/-! clauses: the reference's reading of a clause, whole -/
section RefG
variable {sc : Sc} {d : Nat} {T : Option Nat} {b : Nat → Nat} {n L x0 : Nat} {I : Nat → Nat → Int32} {J : Nat → Nat → Int64}
theorem cl_f {σ : Sg} {p : Nat} (c0 : fcF σ (tK b n p) ≠ 0) : clF b n σ p = .inl (fcF σ (tK b n p), tS b n p) ∧ 0 < fcF σ (tK b n p) ∧ fcF σ (tK b n p) < 7 := by
  unfold fcF at c0 ⊢
  unfold clF
  by_cases a1 : 7 < tK b n p
  · rw [if_pos a1, if_pos a1]
    exact ⟨rfl, by decide, by decide⟩
  · rw [if_neg a1] at c0 ⊢
    rw [if_neg a1]
    by_cases a2 : tK b n p ≤ 1 ∧ (σ.2.1 (tK b n p)).isSome = true
    · rw [if_pos a2, if_pos a2]
      exact ⟨rfl, by decide, by decide⟩
    · rw [if_neg a2] at c0 ⊢
      rw [if_neg a2]
      by_cases a3 : 24 ≤ σ.1.length
      · rw [if_pos a3, if_pos a3]
        exact ⟨rfl, by decide, by decide⟩
      · rw [if_neg a3] at c0
        exact absurd rfl c0
theorem cl_z {σ : Sg} {p : Nat} (c0 : fcF σ (tK b n p) = 0) : tK b n p ≤ 7 ∧ ¬ (tK b n p ≤ 1 ∧ (σ.2.1 (tK b n p)).isSome = true) ∧ σ.1.length < 24 ∧ clF b n σ p = if tK b n p ≤ 1 then (match smr b n (lv1 b n (tK b n p) 8).1 (tX b n p) with
    | .inl e => .inl e
    | .inr (c, p1) => if tK b n p1 = 38 then .inr ((σ.1 ++ [(tK b n p, 0, 0)], setL σ.2.1 (tK b n p) (some (σ.1.length, σ.2.2.1.length, σ.2.2.1.length + c.1.length, σ.2.2.2.length, σ.2.2.2.length + c.2.length)), σ.2.2.1 ++ c.1, σ.2.2.2 ++ c.2), tX b n p1) else .inl (1, tS b n p1)) else (match bodyF b n (tK b n p) (tX b n p) with
    | .inl e => .inl e
    | .inr (F, S, p3) => if tK b n p3 = 38 then .inr ((σ.1 ++ [(tK b n p, F, S)], σ.2.1, σ.2.2), tX b n p3) else .inl (1, tS b n p3)) := by
  unfold fcF at c0
  by_cases a1 : 7 < tK b n p
  · rw [if_pos a1] at c0
    omega
  · rw [if_neg a1] at c0
    by_cases a2 : tK b n p ≤ 1 ∧ (σ.2.1 (tK b n p)).isSome = true
    · rw [if_pos a2] at c0
      omega
    · rw [if_neg a2] at c0
      by_cases a3 : 24 ≤ σ.1.length
      · rw [if_pos a3] at c0
        omega
      · refine ⟨by omega, a2, by omega, ?_⟩
        unfold clF
        rw [if_neg a1, if_neg a2, if_neg a3]
        rfl
theorem bd_ln {W q F S p1 : Nat} (hq : q ≤ n) (h : bodyF b n W q = .inr (F, S, p1)) : tS b n q ≤ tS b n p1 := by
  have st : ∀ p, p ≤ n → tS b n p ≤ tS b n (tX b n p) ∧ tX b n p ≤ n := fun p hp => ⟨Nat.le_trans (tX_le (b := b) hp).1 (tS_le (b := b) (tX_le (b := b) hp).2.1).1, (tX_le (b := b) hp).2.1⟩
  unfold bodyF at h
  rcases rdn_i (b := b) (n := n) (loF W) (hiF W) q with ⟨e, h1⟩ | ⟨h1, -, -⟩
  · rw [h1] at h
    cases h
  · simp only [h1] at h
    by_cases c7 : W = 7
    · rw [if_pos c7] at h
      have e : tX b n q = p1 := congrArg (fun o => match o with
        | .inl _ => 0
        | .inr v => v.2.2) h
      rw [← e]
      exact (st q hq).1
    · rw [if_neg c7] at h
      obtain ⟨a1, a2⟩ := st q hq
      obtain ⟨b1, b2⟩ := st _ a2
      obtain ⟨c1, c2⟩ := st _ b2
      rcases xp_i (b := b) (n := n) (wdW W) (tX b n q) with ⟨h2, -⟩ | ⟨h2, -⟩
      · rw [h2] at h
        cases h
      · simp only [h2] at h
        rcases rdn_i (b := b) (n := n) 0 (h2F W) (tX b n (tX b n q)) with ⟨e, h3⟩ | ⟨h3, -, -⟩
        · rw [h3] at h
          cases h
        · simp only [h3] at h
          have e : tX b n (tX b n (tX b n q)) = p1 := congrArg (fun o => match o with
            | .inl _ => 0
            | .inr v => v.2.2) h
          rw [← e]
          omega
theorem sp_clT {p1 m : Nat} (t : TpM I b n) (hp : p1 ≤ n) (k : TkM I J b n p1) (h12 : I 89 12 = nI x0) (hx : x0 ≤ 2043) (h0 : I 92 x0 = nI m) (hm : m < 24) : ∃ I' J', (∀ c k, (c ≠ 89 ∨ k < 7 ∨ 10 < k) → (c ≠ 92 ∨ k ≠ x0) → I' c k = I c k) ∧ I' 92 x0 = nI (m + 1) ∧ (tK b n p1 = 38 → TpM I' b n ∧ tX b n p1 ≤ n ∧ tS b n p1 + 1 ≤ tS b n (tX b n p1) ∧ TkM I' J' b n (tX b n p1) ∧ ∀ l1 l2 l3 Q, Rn sc (d + 11) 217 63 [some (.ref 89), some (.int l1), some (.int l2), some (.int l3), some (.int (nI 0))] [] (K0, I, J, R1 T) Q = Q (some (.int (nI 0))) (K0, I', J', R1 T)) ∧ (tK b n p1 ≠ 38 → I' 89 8 = nI (tS b n p1) ∧ ∀ l1 l2 l3 Q, Rn sc (d + 11) 217 63 [some (.ref 89), some (.int l1), some (.int l2), some (.int l3), some (.int (nI 0))] [] (K0, I, J, R1 T) Q = Q (some (.int (nI 1))) (K0, I', J', R1 T)) := by
  have hb : ∀ k, k < n → b k < 256 := fun k hk => (t.2.2 k hk).2
  have k9 := k.2.2.1
  have tl := tT_lt (p := p1) hb
  have e1 := tks (p := p1) hb (s := 38) (by decide) (by decide) (c := 59) rfl
  have k9' : uI I 92 x0 (nI (m + 1)) 89 9 = nI (tT b n p1) := by rw [uI_n (by omega)]; exact k9
  by_cases c : tK b n p1 = 38
  · obtain ⟨s1, s2⟩ := tk_st hp (show tK b n p1 ≠ 42 by omega)
    have t1 : TpM (uI I 92 x0 (nI (m + 1))) b n := TpM_r t (fun k hk => uI_n (by omega)) (fun k => uI_n (by omega))
    have k1 : TkM (uI I 92 x0 (nI (m + 1))) J b n p1 := TkM_r k (fun k a1 a2 => uI_n (by omega))
    obtain ⟨I2, J2, f2, t2, k2, q2⟩ := nxM (sc := sc) (d := d + 9) (T := T) t1 hp k1
    refine ⟨I2, J2, fun c k a1 a2 => by rw [f2 c k a1, uI_n (by omega)], by rw [f2 _ _ (by omega), uI_s], fun _ => ⟨t2, s1, s2, k2, fun l1 l2 l3 Q => ?_⟩, fun q => absurd c q⟩
    simp (disch := first | assumption | omega | decide) only [x217_63, x217_64, x217_65, x217_66, x217_67, x217_68, x217_69, x217_70, x217_71, x217_72, x217_73, x217_74, x217_75, x217_76, x217_77, x217_78, x217_79, x217_80, x217_81, x217_82, x217_83, x217_84, x217_85, ↓reduceIte, Option.toList, List.nil_append, List.cons_append, nI_add, pk_mul, n_and, n_or, n_xor, nI_leI, nI_ltI, nI_eq, n_z, uI_s, uI_n, bI_n0, bI_n1, bT, bF, if_true, if_false, not_true, not_false_eq_true, pk_div, pk_rem, Nat.reduceEqDiff, Nat.reduceLeDiff, Nat.reduceLT, Nat.reduceAdd, Nat.reduceMul, Nat.reduceSub, Nat.not_lt_zero, Nat.zero_le, reduceCtorEq, ite_self, n_rem, and_self, and_true, true_and, and_false, false_and, h12, h0, k9, e1, c, q2]
  · refine ⟨uI I 92 x0 (nI (m + 1)), J, fun c k a1 a2 => uI_n (by omega), uI_s, fun q => absurd q c, fun _ => ⟨by rw [uI_n (by omega)]; exact k.2.1, fun l1 l2 l3 Q => ?_⟩⟩
    simp (disch := first | assumption | omega | decide) only [x217_63, x217_64, x217_65, x217_66, x217_67, x217_68, x217_69, x217_70, x217_71, x217_72, x217_73, x217_74, x217_75, x217_76, x217_77, x217_78, x217_79, x217_80, x217_81, x217_82, x217_83, x217_84, x217_85, ↓reduceIte, Option.toList, List.nil_append, List.cons_append, nI_add, pk_mul, n_and, n_or, n_xor, nI_leI, nI_ltI, nI_eq, n_z, uI_s, uI_n, bI_n0, bI_n1, bT, bF, if_true, if_false, not_true, not_false_eq_true, pk_div, pk_rem, Nat.reduceEqDiff, Nat.reduceLeDiff, Nat.reduceLT, Nat.reduceAdd, Nat.reduceMul, Nat.reduceSub, Nat.not_lt_zero, Nat.zero_le, reduceCtorEq, ite_self, n_rem, and_self, and_true, true_and, and_false, false_and, h12, h0, k9, e1, c]
theorem sp_clH {σ : Sg} {p : Nat} (hx : x0 ≤ 2043) (h : RB I J b n x0 σ p) : (fcF σ (tK b n p) ≠ 0 → ∀ Q, Rn sc (d + 11) 217 0 [some (.ref 89), none, none, none, none] [] (K0, I, J, R1 T) Q = Q (some (.int (nI (fcF σ (tK b n p))))) (K0, I, J, R1 T)) ∧ (fcF σ (tK b n p) = 0 → ∀ Q, Rn sc (d + 11) 217 0 [some (.ref 89), none, none, none, none] [] (K0, I, J, R1 T) Q = Rn sc (d + 11) 217 28 [some (.ref 89), some (.int (nI (tK b n p))), some (.int (nI σ.1.length)), none, none] [] (K0, I, J, R1 T) Q) := by
  obtain ⟨t, hp, k, h12, ho, hl, hc⟩ := h
  obtain ⟨h0, h24, h19, h3, h4⟩ := hc
  have so := sp_sort (sc := sc) (d := d + 4) (T := T) t hp k
  have ol := on_lt (lw := σ.2.1)
  obtain ⟨W, eW⟩ : ∃ W, W = tK b n p := ⟨_, rfl⟩
  rw [← eW] at so ⊢
  unfold fcF
  by_cases c1 : 7 < W
  · rw [if_pos c1]
    rw [if_neg (show ¬ W ≤ 7 by omega)] at so
    refine ⟨fun _ Q => ?_, fun q => by omega⟩
    have nn : ¬ nI 0 ≤ -1 := by decide
    simp (disch := first | assumption | omega | decide) only [x217_0, x217_1, x217_2, x217_3, x217_4, x217_5, x217_6, ↓reduceIte, Option.toList, List.nil_append, List.cons_append, nI_add, pk_mul, n_and, n_or, n_xor, nI_leI, nI_ltI, nI_eq, n_z, uI_s, uI_n, bI_n0, bI_n1, bT, bF, if_true, if_false, not_true, not_false_eq_true, pk_div, pk_rem, Nat.reduceEqDiff, Nat.reduceLeDiff, Nat.reduceLT, Nat.reduceAdd, Nat.reduceMul, Nat.reduceSub, Nat.not_lt_zero, Nat.zero_le, reduceCtorEq, ite_self, n_rem, and_self, and_true, true_and, and_false, false_and, so, nn]
  · rw [if_neg c1]
    rw [if_pos (show W ≤ 7 by omega)] at so
    have tail : (24 ≤ σ.1.length → ∀ Q, Rn sc (d + 11) 217 17 [some (.ref 89), some (.int (nI W)), none, none, none] [] (K0, I, J, R1 T) Q = Q (some (.int (nI 6))) (K0, I, J, R1 T)) ∧ (¬ 24 ≤ σ.1.length → ∀ Q, Rn sc (d + 11) 217 17 [some (.ref 89), some (.int (nI W)), none, none, none] [] (K0, I, J, R1 T) Q = Rn sc (d + 11) 217 28 [some (.ref 89), some (.int (nI W)), some (.int (nI σ.1.length)), none, none] [] (K0, I, J, R1 T) Q) := by
      refine ⟨fun q Q => ?_, fun q Q => ?_⟩
      · have e24 : σ.1.length = 24 := by omega
        rw [e24] at h0
        simp (disch := first | assumption | omega | decide) only [x217_17, x217_18, x217_19, x217_20, x217_21, x217_22, x217_23, x217_24, x217_25, x217_26, x217_27, ↓reduceIte, Option.toList, List.nil_append, List.cons_append, nI_add, pk_mul, n_and, n_or, n_xor, nI_leI, nI_ltI, nI_eq, n_z, uI_s, uI_n, bI_n0, bI_n1, bT, bF, if_true, if_false, not_true, not_false_eq_true, pk_div, pk_rem, Nat.reduceEqDiff, Nat.reduceLeDiff, Nat.reduceLT, Nat.reduceAdd, Nat.reduceMul, Nat.reduceSub, Nat.not_lt_zero, Nat.zero_le, reduceCtorEq, ite_self, n_rem, and_self, and_true, true_and, and_false, false_and, h12, h0]
      · have e24 : ¬ σ.1.length = 24 := by omega
        simp (disch := first | assumption | omega | decide) only [x217_17, x217_18, x217_19, x217_20, x217_21, x217_22, x217_23, x217_24, x217_25, x217_26, x217_27, ↓reduceIte, Option.toList, List.nil_append, List.cons_append, nI_add, pk_mul, n_and, n_or, n_xor, nI_leI, nI_ltI, nI_eq, n_z, uI_s, uI_n, bI_n0, bI_n1, bT, bF, if_true, if_false, not_true, not_false_eq_true, pk_div, pk_rem, Nat.reduceEqDiff, Nat.reduceLeDiff, Nat.reduceLT, Nat.reduceAdd, Nat.reduceMul, Nat.reduceSub, Nat.not_lt_zero, Nat.zero_le, reduceCtorEq, ite_self, n_rem, and_self, and_true, true_and, and_false, false_and, h12, h0, e24]
    have pre : ¬ (W ≤ 1 ∧ (σ.2.1 W).isSome = true) → ∀ Q, Rn sc (d + 11) 217 0 [some (.ref 89), none, none, none, none] [] (K0, I, J, R1 T) Q = Rn sc (d + 11) 217 17 [some (.ref 89), some (.int (nI W)), none, none, none] [] (K0, I, J, R1 T) Q := fun q Q => by
      by_cases c2 : W ≤ 1
      · have hs : ∀ Q, Rn sc (d + 10) 171 0 [some (.int (nI (oncF σ.2.1))), some (.int (nI W))] [] (K0, I, J, R1 T) Q = Q (some (.int (bI (oncF σ.2.1 / 2 ^ W % 2 = 1)))) (K0, I, J, R1 T) := fun Q => sp_has (by omega) (by omega)
        rw [bI_f (fun z => q ⟨c2, (on_b (show W < 2 by omega)).mp z⟩)] at hs
        have c2' : ¬ 1 < W := by omega
        simp (disch := first | assumption | omega | decide) only [x217_0, x217_1, x217_2, x217_3, x217_4, x217_5, x217_6, x217_7, x217_8, x217_9, x217_10, x217_11, x217_12, x217_13, x217_14, ↓reduceIte, Option.toList, List.nil_append, List.cons_append, nI_add, pk_mul, n_and, n_or, n_xor, nI_leI, nI_ltI, nI_eq, n_z, uI_s, uI_n, bI_n0, bI_n1, bT, bF, if_true, if_false, not_true, not_false_eq_true, pk_div, pk_rem, Nat.reduceEqDiff, Nat.reduceLeDiff, Nat.reduceLT, Nat.reduceAdd, Nat.reduceMul, Nat.reduceSub, Nat.not_lt_zero, Nat.zero_le, reduceCtorEq, ite_self, n_rem, and_self, and_true, true_and, and_false, false_and, so, c2', h19, hs]
      · have c2' : 1 < W := by omega
        simp (disch := first | assumption | omega | decide) only [x217_0, x217_1, x217_2, x217_3, x217_4, x217_5, x217_6, x217_7, x217_8, x217_9, ↓reduceIte, Option.toList, List.nil_append, List.cons_append, nI_add, pk_mul, n_and, n_or, n_xor, nI_leI, nI_ltI, nI_eq, n_z, uI_s, uI_n, bI_n0, bI_n1, bT, bF, if_true, if_false, not_true, not_false_eq_true, pk_div, pk_rem, Nat.reduceEqDiff, Nat.reduceLeDiff, Nat.reduceLT, Nat.reduceAdd, Nat.reduceMul, Nat.reduceSub, Nat.not_lt_zero, Nat.zero_le, reduceCtorEq, ite_self, n_rem, and_self, and_true, true_and, and_false, false_and, so, c2']
    by_cases c2 : W ≤ 1 ∧ (σ.2.1 W).isSome = true
    · rw [if_pos c2]
      refine ⟨fun _ Q => ?_, fun q => by omega⟩
      have hs : ∀ Q, Rn sc (d + 10) 171 0 [some (.int (nI (oncF σ.2.1))), some (.int (nI W))] [] (K0, I, J, R1 T) Q = Q (some (.int (bI (oncF σ.2.1 / 2 ^ W % 2 = 1)))) (K0, I, J, R1 T) := fun Q => sp_has (by omega) (by omega)
      rw [bI_t ((on_b (show W < 2 by omega)).mpr c2.2)] at hs
      have c2' : ¬ 1 < W := by omega
      simp (disch := first | assumption | omega | decide) only [x217_0, x217_1, x217_2, x217_3, x217_4, x217_5, x217_6, x217_7, x217_8, x217_9, x217_10, x217_11, x217_12, x217_13, x217_14, x217_15, x217_16, ↓reduceIte, Option.toList, List.nil_append, List.cons_append, nI_add, pk_mul, n_and, n_or, n_xor, nI_leI, nI_ltI, nI_eq, n_z, uI_s, uI_n, bI_n0, bI_n1, bT, bF, if_true, if_false, not_true, not_false_eq_true, pk_div, pk_rem, Nat.reduceEqDiff, Nat.reduceLeDiff, Nat.reduceLT, Nat.reduceAdd, Nat.reduceMul, Nat.reduceSub, Nat.not_lt_zero, Nat.zero_le, reduceCtorEq, ite_self, n_rem, and_self, and_true, true_and, and_false, false_and, so, c2', h19, hs]
    · rw [if_neg c2]
      by_cases c3 : 24 ≤ σ.1.length
      · rw [if_pos c3]
        exact ⟨fun _ Q => (pre c2 Q).trans (tail.1 c3 Q), fun q => by omega⟩
      · rw [if_neg c3]
        exact ⟨fun q => absurd rfl q, fun _ Q => (pre c2 Q).trans (tail.2 c3 Q)⟩
/-- what a clause comes to -/
def CmR (sc : Sc) (d : Nat) (T : Option Nat) (I I' : Nat → Nat → Int32) (J J' : Nat → Nat → Int64) (b : Nat → Nat) (n x0 : Nat) : Sum (Nat × Nat) (Sg × Nat) → Prop
  | .inl (f, y) => 0 < f ∧ f < 7 ∧ I' 89 8 = nI y ∧ ∀ Q, Rn sc (d + 11) 217 0 [some (.ref 89), none, none, none, none] [] (K0, I, J, R1 T) Q = Q (some (.int (nI f))) (K0, I', J', R1 T)
  | .inr (σ, p) => RB I' J' b n x0 σ p ∧ ∀ Q, Rn sc (d + 11) 217 0 [some (.ref 89), none, none, none, none] [] (K0, I, J, R1 T) Q = Q (some (.int (nI 0))) (K0, I', J', R1 T)
theorem sp_clsM {σ : Sg} {p : Nat} (hx : x0 ≤ 2043) (h : RB I J b n x0 σ p) : ∃ I' J', FrB x0 I I' ∧ CmR sc d T I I' J J' b n x0 (clF b n σ p) := by
  obtain ⟨hd1, hd2⟩ := sp_clH (sc := sc) (d := d) (T := T) hx h
  by_cases c0 : fcF σ (tK b n p) = 0
  · obtain ⟨w7, w1, h24, ec⟩ := cl_z c0
    have hd := hd2 c0
    rw [ec]
    obtain ⟨cl, lw, cs, out⟩ := σ
    obtain ⟨t, hp, k, h12, ho, hl, hc⟩ := h
    have ho : OtM I x0 out := ho
    have hl : out.length ≤ tS b n p := hl
    have hc : ClM I x0 cl lw := hc
    have h24 : cl.length < 24 := h24
    obtain ⟨h0, -, h19, -, -⟩ := id hc
    obtain ⟨s1, s2⟩ := tk_st hp (show tK b n p ≠ 42 by omega)
    obtain ⟨W, eW⟩ : ∃ W, W = tK b n p := ⟨_, rfl⟩
    rw [← eW] at w7 w1 hd ⊢
    by_cases c1 : W ≤ 1
    · rw [if_pos c1]
      have c1' : ¬ 1 < W := by omega
      have esh : nI 1 <<< (nI W &&& 31) = nI (1 * 2 ^ W) := n_shl (by omega) (by
        have : W = 0 ∨ W = 1 := by omega
        rcases this with e | e <;> rw [e] <;> decide)
      obtain ⟨o, eo⟩ : ∃ o, o = oncF lw ||| 1 * 2 ^ W := ⟨_, rfl⟩
      have eor : nI (oncF lw) ||| nI (1 * 2 ^ W) = nI o := by rw [n_or, eo]
      obtain ⟨I1, eI1⟩ : ∃ X, X = uI (uI I 89 19 (nI o)) 89 14 (nI W) := ⟨_, rfl⟩
      have g1 : ∀ c k, (c ≠ 89 ∨ (k ≠ 19 ∧ k ≠ 14)) → I1 c k = I c k := fun c k hc => by rw [eI1, uI_n (by omega), uI_n (by omega)]
      obtain ⟨I2, J2, f2, t2, k2, q2⟩ := nxM (sc := sc) (d := d + 9) (T := T) (J := J) (TpM_r t (fun k hk => g1 _ _ (by omega)) (fun k => g1 _ _ (by omega))) hp (TkM_r k (fun k a1 a2 => g1 _ _ (by omega)))
      obtain ⟨x, ex⟩ : ∃ x, x = x0 + 1 + 3 * cl.length := ⟨_, rfl⟩
      obtain ⟨I3, eI3⟩ : ∃ X, X = uI I2 92 x (nI W) := ⟨_, rfl⟩
      have g3' : ∀ c k, (c ≠ 89 ∨ k < 7 ∨ (10 < k ∧ k ≠ 14 ∧ k ≠ 19)) → (c ≠ 92 ∨ k ≠ x) → I3 c k = I c k := fun c k a1 a2 => by rw [eI3, uI_n (by omega), f2 c k (by omega), g1 c k (by omega)]
      have i19 : I3 89 19 = nI o := by rw [eI3, uI_n (by omega), f2 _ _ (by omega), eI1, uI_n (by omega), uI_s]
      have i14 : I3 89 14 = nI W := by rw [eI3, uI_n (by omega), f2 _ _ (by omega), eI1, uI_s]
      obtain ⟨I4, J4, f4, r4⟩ := sp_lawM (sc := sc) (d := d) (T := T) (J := J2) (x := x) (out := out) hx (show W < 2 by omega) (by omega) (by omega) (TpM_r t2 (fun k hk => by rw [eI3, uI_n (by omega)]) (fun k => by rw [eI3, uI_n (by omega)])) s1 (TkM_r k2 (fun k a1 a2 => by rw [eI3, uI_n (by omega)])) ((g3' _ _ (by omega) (by omega)).trans h12) i14 ⟨(g3' _ _ (by omega) (by omega)).trans ho.1, fun j hj => ⟨(g3' _ _ (by omega) (by omega)).trans (ho.2 j hj).1, (g3' _ _ (by omega) (by omega)).trans (ho.2 j hj).2⟩⟩ (by omega)
      have st : ∀ r J4, (∀ Q, Rn sc (d + 10) 215 0 [some (.ref 89), some (.int (nI W)), some (.int (nI x))] [] (K0, I3, J2, R1 T) Q = Q (some (.int r)) (K0, I4, J4, R1 T)) → ∀ Q, Rn sc (d + 11) 217 0 [some (.ref 89), none, none, none, none] [] (K0, I, J, R1 T) Q = Rn sc (d + 11) 217 63 [some (.ref 89), some (.int (nI W)), some (.int (nI cl.length)), some (.int (nI x)), some (.int r)] [] (K0, I4, J4, R1 T) Q := fun r J4 hr Q => by
        have i12 : I2 89 12 = nI x0 := by rw [f2 _ _ (by omega), g1 _ _ (by omega)]; exact h12
        rw [eI1] at q2
        rw [eI3] at hr
        refine (hd Q).trans ?_
        show Rn sc (d + 11) 217 28 [some (.ref 89), some (.int (nI W)), some (.int (nI cl.length)), none, none] [] (K0, I, J, R1 T) Q = _
        rw [ex] at hr ⊢
        simp (disch := first | assumption | omega | decide) only [x217_28, x217_29, x217_30, x217_31, x217_32, x217_33, x217_34, x217_35, x217_36, x217_37, x217_38, x217_39, x217_40, x217_41, x217_42, x217_43, x217_44, x217_45, x217_46, x217_47, x217_48, x217_49, x217_50, x217_51, x217_52, x217_53, x217_54, x217_55, x217_56, x217_57, x217_58, x217_59, x217_60, x217_61, x217_62, ↓reduceIte, Option.toList, List.nil_append, List.cons_append, nI_add, pk_mul, n_and, n_or, n_xor, nI_leI, nI_ltI, nI_eq, n_z, uI_s, uI_n, bI_n0, bI_n1, bT, bF, if_true, if_false, not_true, not_false_eq_true, pk_div, pk_rem, Nat.reduceEqDiff, Nat.reduceLeDiff, Nat.reduceLT, Nat.reduceAdd, Nat.reduceMul, Nat.reduceSub, Nat.not_lt_zero, Nat.zero_le, reduceCtorEq, ite_self, n_rem, and_self, and_true, true_and, and_false, false_and, c1', h19, esh, eor, q2, i12, hr]
      have frb : FrB x0 I I4 := fun c k a1 a2 a3 => by rw [f4 c k (by omega) (by omega) a3, g3' c k (by omega) (by omega)]
      rcases e1 : smr b n (lv1 b n W 8).1 (tX b n p) with ⟨f, y⟩ | ⟨c, p1⟩
      · rw [e1] at r4
        obtain ⟨z1, z2, z3, z4⟩ := r4
        have f0 : ¬ f = 0 := by omega
        refine ⟨I4, J4, frb, z2, z1, z3, fun Q => ?_⟩
        rw [st _ _ z4 Q]
        simp (disch := first | assumption | omega | decide) only [x217_63, x217_64, x217_65, x217_66, ↓reduceIte, Option.toList, List.nil_append, List.cons_append, nI_add, pk_mul, n_and, n_or, n_xor, nI_leI, nI_ltI, nI_eq, n_z, uI_s, uI_n, bI_n0, bI_n1, bT, bF, if_true, if_false, not_true, not_false_eq_true, pk_div, pk_rem, Nat.reduceEqDiff, Nat.reduceLeDiff, Nat.reduceLT, Nat.reduceAdd, Nat.reduceMul, Nat.reduceSub, Nat.not_lt_zero, Nat.zero_le, reduceCtorEq, ite_self, n_rem, and_self, and_true, true_and, and_false, false_and, f0]
      · rw [e1] at r4
        obtain ⟨⟨t4, hp4, k4, o4, l4, i12, i1, i2⟩, z4⟩ := r4
        have i0 : I4 92 x0 = nI cl.length := by rw [f4 _ _ (by omega) (by omega) (by omega), g3' _ _ (by omega) (by omega)]; exact h0
        obtain ⟨I5, J5, f5, e5, y5, n5⟩ := sp_clT (sc := sc) (d := d) (T := T) t4 hp4 k4 i12 hx i0 h24
        have frb5 : FrB x0 I I5 := FrB_t frb (fun c k a1 a2 a3 => f5 c k (by omega) (by omega))
        by_cases c38 : tK b n p1 = 38
        · obtain ⟨t5, hp5, sl5, k5, q5⟩ := y5 c38
          show ∃ I' J', FrB x0 I I' ∧ CmR sc d T I I' J J' b n x0 (if tK b n p1 = 38 then .inr ((cl ++ [(W, 0, 0)], setL lw W (some (cl.length, cs.length, cs.length + c.1.length, out.length, out.length + c.2.length)), cs ++ c.1, out ++ c.2), tX b n p1) else .inl (1, tS b n p1))
          rw [if_pos c38]
          refine ⟨I5, J5, frb5, ⟨t5, hp5, k5, (f5 _ _ (by omega) (by omega)).trans i12, ⟨(f5 _ _ (by omega) (by omega)).trans o4.1, fun j hj => ⟨(f5 _ _ (by omega) (by omega)).trans (o4.2 j hj).1, (f5 _ _ (by omega) (by omega)).trans (o4.2 j hj).2⟩⟩, Nat.le_trans l4 (by omega), ?_⟩, fun Q => ?_⟩
          · refine ClM_a hc h24 e5 (fun k a1 a2 => ?_) ⟨w7, by omega, by omega⟩ ?_ (fun q => by omega) (fun q => by omega) ?_ (fun L hL k i e p q he => ?_)
            · rw [f5 _ _ (by omega) (by omega), f4 _ _ (by omega) (by omega) (by omega), g3' _ _ (by omega) (by omega)]
            · rw [f5 _ _ (by omega) (by omega), f4 _ _ (by omega) (by omega) (by omega), eI3, ← ex, uI_s]
            · rw [f5 _ _ (by omega) (by omega), f4 _ _ (by omega) (by omega) (by omega), i19, eo, on_s (by omega)]
            · by_cases eL : L = W
              · rw [eL] at he
                have he : setL lw W _ W = _ := he
                unfold setL at he
                rw [if_pos rfl] at he
                have hk := congrArg (fun o => (o.getD (0, 0, 0, 0, 0)).1) he
                have hk : cl.length = k := hk
                have hp := congrArg (fun o => (o.getD (0, 0, 0, 0, 0)).2.2.2.1) he
                have hp : out.length = p := hp
                have hq := congrArg (fun o => (o.getD (0, 0, 0, 0, 0)).2.2.2.2) he
                have hq : out.length + c.2.length = q := hq
                refine Or.inr ⟨hk.symm, ?_, ?_⟩
                · rw [← hk, ← ex, f5 _ _ (by omega) (by omega), i1, hp]
                · rw [← hk, ← ex, f5 _ _ (by omega) (by omega), i2, hq]
              · have he : setL lw W _ L = _ := he
                unfold setL at he
                rw [if_neg eL] at he
                exact Or.inl he
          · rw [st _ _ z4 Q]
            exact q5 _ _ _ Q
        · obtain ⟨e8, q5⟩ := n5 c38
          show ∃ I' J', FrB x0 I I' ∧ CmR sc d T I I' J J' b n x0 (if tK b n p1 = 38 then .inr ((cl ++ [(W, 0, 0)], setL lw W (some (cl.length, cs.length, cs.length + c.1.length, out.length, out.length + c.2.length)), cs ++ c.1, out ++ c.2), tX b n p1) else .inl (1, tS b n p1))
          rw [if_neg c38]
          refine ⟨I5, J5, frb5, by decide, by decide, e8, fun Q => ?_⟩
          rw [st _ _ z4 Q]
          exact q5 _ _ _ Q
    · rw [if_neg c1]
      have c1' : 1 < W := by omega
      obtain ⟨I1, eI1⟩ : ∃ X, X = uI I 89 14 (nI W) := ⟨_, rfl⟩
      have g1 : ∀ c k, (c ≠ 89 ∨ k ≠ 14) → I1 c k = I c k := fun c k hc => by rw [eI1, uI_n (by omega)]
      obtain ⟨I2, J2, f2, t2, k2, q2⟩ := nxM (sc := sc) (d := d + 9) (T := T) (J := J) (TpM_r t (fun k hk => g1 _ _ (by omega)) (fun k => g1 _ _ (by omega))) hp (TkM_r k (fun k a1 a2 => g1 _ _ (by omega)))
      obtain ⟨x, ex⟩ : ∃ x, x = x0 + 1 + 3 * cl.length := ⟨_, rfl⟩
      obtain ⟨I3, eI3⟩ : ∃ X, X = uI I2 92 x (nI W) := ⟨_, rfl⟩
      have g3' : ∀ c k, (c ≠ 89 ∨ k < 7 ∨ (10 < k ∧ k ≠ 14)) → (c ≠ 92 ∨ k ≠ x) → I3 c k = I c k := fun c k a1 a2 => by rw [eI3, uI_n (by omega), f2 c k (by omega), g1 c k (by omega)]
      obtain ⟨I4, J4, r, r4, q4⟩ := sp_body (sc := sc) (d := d + 5) (T := T) (I := I3) (J := J2) (x := x) (W := W) (by omega) (by omega) (TpM_r t2 (fun k hk => by rw [eI3, uI_n (by omega)]) (fun k => by rw [eI3, uI_n (by omega)])) s1 (TkM_r k2 (fun k a1 a2 => by rw [eI3, uI_n (by omega)]))
      obtain ⟨f4, r4⟩ := r4
      have st : ∀ Q, Rn sc (d + 11) 217 0 [some (.ref 89), none, none, none, none] [] (K0, I, J, R1 T) Q = Rn sc (d + 11) 217 63 [some (.ref 89), some (.int (nI W)), some (.int (nI cl.length)), some (.int (nI x)), some (.int r)] [] (K0, I4, J4, R1 T) Q := fun Q => by
        have i12 : I2 89 12 = nI x0 := by rw [f2 _ _ (by omega), g1 _ _ (by omega)]; exact h12
        rw [eI1] at q2
        have hr := q4
        rw [eI3] at hr
        refine (hd Q).trans ?_
        show Rn sc (d + 11) 217 28 [some (.ref 89), some (.int (nI W)), some (.int (nI cl.length)), none, none] [] (K0, I, J, R1 T) Q = _
        rw [ex] at hr ⊢
        simp (disch := first | assumption | omega | decide) only [x217_28, x217_29, x217_30, x217_31, x217_32, x217_33, x217_34, x217_35, x217_36, x217_37, x217_38, x217_39, x217_40, x217_41, x217_42, x217_43, x217_44, x217_45, x217_46, x217_47, x217_48, x217_49, x217_50, x217_51, x217_52, x217_53, x217_54, x217_55, x217_56, x217_57, x217_58, x217_59, x217_60, x217_61, x217_62, ↓reduceIte, Option.toList, List.nil_append, List.cons_append, nI_add, pk_mul, n_and, n_or, n_xor, nI_leI, nI_ltI, nI_eq, n_z, uI_s, uI_n, bI_n0, bI_n1, bT, bF, if_true, if_false, not_true, not_false_eq_true, pk_div, pk_rem, Nat.reduceEqDiff, Nat.reduceLeDiff, Nat.reduceLT, Nat.reduceAdd, Nat.reduceMul, Nat.reduceSub, Nat.not_lt_zero, Nat.zero_le, reduceCtorEq, ite_self, n_rem, and_self, and_true, true_and, and_false, false_and, c1', q2, i12, hr]
      have frb : FrB x0 I I4 := fun c k a1 a2 a3 => by rw [f4 c k (by omega) (by omega), g3' c k (by omega) (by omega)]
      rcases e1 : bodyF b n W (tX b n p) with ⟨f, y⟩ | ⟨F, S, p1⟩
      · rw [e1] at r4
        obtain ⟨z1, z2, z3, z4⟩ := r4
        have f0 : ¬ f = 0 := by omega
        refine ⟨I4, J4, frb, z1, z2, z3, fun Q => ?_⟩
        rw [st Q, z4]
        simp (disch := first | assumption | omega | decide) only [x217_63, x217_64, x217_65, x217_66, ↓reduceIte, Option.toList, List.nil_append, List.cons_append, nI_add, pk_mul, n_and, n_or, n_xor, nI_leI, nI_ltI, nI_eq, n_z, uI_s, uI_n, bI_n0, bI_n1, bT, bF, if_true, if_false, not_true, not_false_eq_true, pk_div, pk_rem, Nat.reduceEqDiff, Nat.reduceLeDiff, Nat.reduceLT, Nat.reduceAdd, Nat.reduceMul, Nat.reduceSub, Nat.not_lt_zero, Nat.zero_le, reduceCtorEq, ite_self, n_rem, and_self, and_true, true_and, and_false, false_and, f0]
      · rw [e1] at r4
        obtain ⟨t4, hp4, k4, i1, i2, hF, hS, er⟩ := r4
        rw [er] at st
        have i0 : I4 92 x0 = nI cl.length := by rw [f4 _ _ (by omega) (by omega), g3' _ _ (by omega) (by omega)]; exact h0
        have i12 : I4 89 12 = nI x0 := by rw [f4 _ _ (by omega) (by omega), g3' _ _ (by omega) (by omega)]; exact h12
        obtain ⟨I5, J5, f5, e5, y5, n5⟩ := sp_clT (sc := sc) (d := d) (T := T) t4 hp4 k4 i12 hx i0 h24
        have frb5 : FrB x0 I I5 := FrB_t frb (fun c k a1 a2 a3 => f5 c k (by omega) (by omega))
        by_cases c38 : tK b n p1 = 38
        · obtain ⟨t5, hp5, sl5, k5, q5⟩ := y5 c38
          show ∃ I' J', FrB x0 I I' ∧ CmR sc d T I I' J J' b n x0 (if tK b n p1 = 38 then .inr ((cl ++ [(W, F, S)], lw, cs, out), tX b n p1) else .inl (1, tS b n p1))
          rw [if_pos c38]
          have bl : tS b n (tX b n p) ≤ tS b n p1 := bd_ln s1 e1
          refine ⟨I5, J5, frb5, ⟨t5, hp5, k5, (f5 _ _ (by omega) (by omega)).trans i12, ⟨?_, fun j hj => ⟨?_, ?_⟩⟩, Nat.le_trans hl (by omega), ?_⟩, fun Q => ?_⟩
          · rw [f5 _ _ (by omega) (by omega), f4 _ _ (by omega) (by omega), g3' _ _ (by omega) (by omega)]
            exact ho.1
          · have := ho.2 j hj
            rw [f5 _ _ (by omega) (by omega), f4 _ _ (by omega) (by omega), g3' _ _ (by omega) (by omega)]
            exact this.1
          · have := ho.2 j hj
            rw [f5 _ _ (by omega) (by omega), f4 _ _ (by omega) (by omega), g3' _ _ (by omega) (by omega)]
            exact this.2
          · refine ClM_a hc h24 e5 (fun k a1 a2 => ?_) ⟨w7, hF, hS⟩ ?_ (fun q => ?_) (fun q1 q2 => ?_) ?_ (fun L hL k i e p q he => Or.inl he)
            · rw [f5 _ _ (by omega) (by omega), f4 _ _ (by omega) (by omega), g3' _ _ (by omega) (by omega)]
            · rw [f5 _ _ (by omega) (by omega), f4 _ _ (by omega) (by omega), eI3, ← ex, uI_s]
            · rw [← ex, f5 _ _ (by omega) (by omega), i1]
            · rw [← ex, f5 _ _ (by omega) (by omega), i2 q2]
            · rw [f5 _ _ (by omega) (by omega), f4 _ _ (by omega) (by omega), g3' _ _ (by omega) (by omega)]
              exact h19
          · rw [st Q]
            exact q5 _ _ _ Q
        · obtain ⟨e8, q5⟩ := n5 c38
          show ∃ I' J', FrB x0 I I' ∧ CmR sc d T I I' J J' b n x0 (if tK b n p1 = 38 then .inr ((cl ++ [(W, F, S)], lw, cs, out), tX b n p1) else .inl (1, tS b n p1))
          rw [if_neg c38]
          refine ⟨I5, J5, frb5, by decide, by decide, e8, fun Q => ?_⟩
          rw [st Q]
          exact q5 _ _ _ Q
  · obtain ⟨ec, z1, z2⟩ := cl_f c0
    rw [ec]
    exact ⟨I, J, FrB_r, z1, z2, h.2.2.1.2.1, hd1 c0⟩
end RefG
