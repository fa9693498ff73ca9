/-! a text: the reference's reading, and what laws a text has -/
theorem gdz_l {α : Type} {l r : List α} {j : Nat} {x : α} (h : j < l.length) : (l ++ r).getD j x = l.getD j x := by
  rw [List.getD_eq_getElem?_getD, List.getD_eq_getElem?_getD, List.getElem?_append_left h]
theorem gdz_r {α : Type} {l r : List α} {j : Nat} {x : α} : (l ++ r).getD (l.length + j) x = r.getD j x := by
  rw [List.getD_eq_getElem?_getD, List.getD_eq_getElem?_getD, List.getElem?_append_right (Nat.le_add_right _ _), Nat.add_sub_cancel_left]
theorem cl_in {b : Nat → Nat} {n p p' : Nat} {σ σ' : Sg} (h : clF b n σ p = .inr (σ', p')) : (∃ c p1, tK b n p ≤ 1 ∧ σ.2.1 (tK b n p) = none ∧ smr b n (lv1 b n (tK b n p) 8).1 (tX b n p) = .inr (c, p1) ∧ σ' = (σ.1 ++ [(tK b n p, 0, 0)], setL σ.2.1 (tK b n p) (some (σ.1.length, σ.2.2.1.length, σ.2.2.1.length + c.1.length, σ.2.2.2.length, σ.2.2.2.length + c.2.length)), σ.2.2.1 ++ c.1, σ.2.2.2 ++ c.2)) ∨ ∃ F S, 2 ≤ tK b n p ∧ σ' = (σ.1 ++ [(tK b n p, F, S)], σ.2.1, σ.2.2) := by
  by_cases c0 : fcF σ (tK b n p) = 0
  · obtain ⟨w7, w1, h24, ec⟩ := cl_z c0
    rw [ec] at h
    by_cases c1 : tK b n p ≤ 1
    · rw [if_pos c1] at h
      refine Or.inl ?_
      have hn : σ.2.1 (tK b n p) = none := by
        cases e : σ.2.1 (tK b n p) with
        | none => rfl
        | some v =>
          rw [e] at w1
          exact absurd ⟨c1, rfl⟩ w1
      rcases e1 : smr b n (lv1 b n (tK b n p) 8).1 (tX b n p) with ⟨f, y⟩ | ⟨c, p1⟩
      · rw [e1] at h
        cases h
      · rw [e1] at h
        simp only at h
        by_cases c38 : tK b n p1 = 38
        · rw [if_pos c38] at h
          exact ⟨c, p1, c1, hn, rfl, ((Prod.mk.inj (Sum.inr.inj h)).1).symm⟩
        · rw [if_neg c38] at h
          cases h
    · rw [if_neg c1] at h
      refine Or.inr ?_
      rcases e1 : bodyF b n (tK b n p) (tX b n p) with ⟨f, y⟩ | ⟨F, S, p1⟩
      · rw [e1] at h
        cases h
      · rw [e1] at h
        simp only at h
        by_cases c38 : tK b n p1 = 38
        · rw [if_pos c38] at h
          exact ⟨F, S, by omega, ((Prod.mk.inj (Sum.inr.inj h)).1).symm⟩
        · rw [if_neg c38] at h
          cases h
  · rw [(cl_f c0).1] at h
    cases h
theorem cl_len {b : Nat → Nat} {n p p' : Nat} {σ σ' : Sg} (h : clF b n σ p = .inr (σ', p')) : σ'.1.length = σ.1.length + 1 := by
  rcases cl_in h with ⟨c, p1, -, -, -, e⟩ | ⟨F, S, -, e⟩
  · rw [e]
    show (σ.1 ++ [_]).length = _
    rw [List.length_append]
    rfl
  · rw [e]
    show (σ.1 ++ [_]).length = _
    rw [List.length_append]
    rfl
def GdL (σ : Sg) : Prop := (∀ x, x ∈ σ.2.2.1 → x < 2 ^ 20) ∧ (∀ x, x ∈ σ.2.2.2 → x.1 < 2 ^ 20) ∧ ∀ L, L < 2 → (σ.2.1 L = none → ∀ k, k < σ.1.length → (g3 σ.1 k).1 ≠ L) ∧ ∀ k i e p q, σ.2.1 L = some (k, i, e, p, q) → k < σ.1.length ∧ (g3 σ.1 k).1 = L ∧ (∀ j, j < k → (g3 σ.1 j).1 ≠ L) ∧ ∃ c : Cd, e = i + c.1.length ∧ e ≤ σ.2.2.1.length ∧ q = p + c.2.length ∧ q ≤ σ.2.2.2.length ∧ AtL (fun j => σ.2.2.1.getD j 0) i c.1 ∧ AtP (fun j => (σ.2.2.2.getD j (0, 0)).1) (fun j => (σ.2.2.2.getD j (0, 0)).2) p c.2 ∧ SmE L c 51
theorem gd_cl {b : Nat → Nat} {n p p' : Nat} {σ σ' : Sg} (n3 : n ≤ 300) (hp : p ≤ n) (g : GdL σ) (h : clF b n σ p = .inr (σ', p')) : GdL σ' := by
  obtain ⟨cl, lw, cs, out⟩ := σ
  obtain ⟨g1, g2, g3'⟩ := g
  have g1 : ∀ x, x ∈ cs → x < 2 ^ 20 := g1
  have g2 : ∀ x, x ∈ out → x.1 < 2 ^ 20 := g2
  rcases cl_in h with ⟨c, p1, w1, hn, hs, e⟩ | ⟨F, S, w2, e⟩
  · rw [e]
    have hn : lw (tK b n p) = none := hn
    obtain ⟨se, s1, s2⟩ := pe_sum n3 (show tK b n p < 2 by omega) (tX b n p) (tX_le (b := b) hp).2.1 c p1 hs
    obtain ⟨W, eW⟩ : ∃ W, W = tK b n p := ⟨_, rfl⟩
    rw [← eW] at w1 hn se ⊢
    refine ⟨fun x hx => ?_, fun x hx => ?_, fun L hL => ⟨fun eN k hk => ?_, fun k i e p q he => ?_⟩⟩
    · rcases List.mem_append.mp hx with q | q
      · exact g1 x q
      · exact s1 x q
    · rcases List.mem_append.mp hx with q | q
      · exact g2 x q
      · exact s2 x q
    · have eN : setL lw W _ L = none := eN
      unfold setL at eN
      by_cases eL : L = W
      · rw [if_pos eL] at eN
        cases eN
      · rw [if_neg eL] at eN
        have hk : k < (cl ++ [(W, 0, 0)]).length := hk
        show (g3 (cl ++ [(W, 0, 0)]) k).1 ≠ L
        rw [List.length_append] at hk
        have hk : k < cl.length + 1 := hk
        by_cases ck : k < cl.length
        · rw [g3_a ck]
          exact (g3' L hL).1 eN k ck
        · have : k = cl.length := by omega
          rw [this, g3_e]
          exact fun z => eL z.symm
    · have he : setL lw W _ L = _ := he
      unfold setL at he
      show k < (cl ++ [(W, 0, 0)]).length ∧ (g3 (cl ++ [(W, 0, 0)]) k).1 = L ∧ (∀ j, j < k → (g3 (cl ++ [(W, 0, 0)]) j).1 ≠ L) ∧ ∃ c' : Cd, e = i + c'.1.length ∧ e ≤ (cs ++ c.1).length ∧ q = p + c'.2.length ∧ q ≤ (out ++ c.2).length ∧ AtL (fun j => (cs ++ c.1).getD j 0) i c'.1 ∧ AtP (fun j => ((out ++ c.2).getD j (0, 0)).1) (fun j => ((out ++ c.2).getD j (0, 0)).2) p c'.2 ∧ SmE L c' 51
      have hlen : (cl ++ [(W, 0, 0)]).length = cl.length + 1 := by rw [List.length_append]; rfl
      rw [hlen, List.length_append, List.length_append]
      by_cases eL : L = W
      · rw [if_pos eL] at he
        have hk : cl.length = k := congrArg (fun o => (o.getD (0, 0, 0, 0, 0)).1) he
        have hi : cs.length = i := congrArg (fun o => (o.getD (0, 0, 0, 0, 0)).2.1) he
        have hee : cs.length + c.1.length = e := congrArg (fun o => (o.getD (0, 0, 0, 0, 0)).2.2.1) he
        have hpp : out.length = p := congrArg (fun o => (o.getD (0, 0, 0, 0, 0)).2.2.2.1) he
        have hq : out.length + c.2.length = q := congrArg (fun o => (o.getD (0, 0, 0, 0, 0)).2.2.2.2) he
        rw [← hk, ← hi, ← hee, ← hpp, ← hq, g3_e]
        refine ⟨by omega, eL.symm, fun j hj => ?_, c, rfl, Nat.le_refl _, rfl, Nat.le_refl _, fun j hj => gdz_r, fun j hj => ⟨?_, ?_⟩, by rw [eL]; exact se⟩
        · rw [g3_a hj, eL]
          exact (g3' W (by omega)).1 hn j hj
        · show ((out ++ c.2).getD (out.length + j) (0, 0)).1 = _
          rw [gdz_r]
        · show ((out ++ c.2).getD (out.length + j) (0, 0)).2 = _
          rw [gdz_r]
      · rw [if_neg eL] at he
        obtain ⟨a1, a2, a3, c', b1, b2, b3, b4, b5, b6, b7⟩ := (g3' L hL).2 k i e p q he
        have a1 : k < cl.length := a1
        have b2 : e ≤ cs.length := b2
        have b4 : q ≤ out.length := b4
        refine ⟨by omega, by rw [g3_a a1]; exact a2, fun j hj => ?_, c', b1, by omega, b3, by omega, fun j hj => ?_, fun j hj => ⟨?_, ?_⟩, b7⟩
        · rw [g3_a (by omega)]
          exact a3 j hj
        · show (cs ++ c.1).getD (i + j) 0 = _
          rw [gdz_l (by omega)]
          exact b5 j hj
        · show ((out ++ c.2).getD (p + j) (0, 0)).1 = _
          rw [gdz_l (by omega)]
          exact (b6 j hj).1
        · show ((out ++ c.2).getD (p + j) (0, 0)).2 = _
          rw [gdz_l (by omega)]
          exact (b6 j hj).2
  · rw [e]
    obtain ⟨W, eW⟩ : ∃ W, W = tK b n p := ⟨_, rfl⟩
    rw [← eW] at w2 ⊢
    have hlen : (cl ++ [(W, F, S)]).length = cl.length + 1 := by rw [List.length_append]; rfl
    refine ⟨g1, g2, fun L hL => ⟨fun eN k hk => ?_, fun k i e p q he => ?_⟩⟩
    · have hk : k < (cl ++ [(W, F, S)]).length := hk
      show (g3 (cl ++ [(W, F, S)]) k).1 ≠ L
      rw [hlen] at hk
      by_cases ck : k < cl.length
      · rw [g3_a ck]
        exact (g3' L hL).1 eN k ck
      · have : k = cl.length := by omega
        rw [this, g3_e]
        show W ≠ L
        omega
    · obtain ⟨a1, a2, a3, r⟩ := (g3' L hL).2 k i e p q he
      have a1 : k < cl.length := a1
      show k < (cl ++ [(W, F, S)]).length ∧ (g3 (cl ++ [(W, F, S)]) k).1 = L ∧ (∀ j, j < k → (g3 (cl ++ [(W, F, S)]) j).1 ≠ L) ∧ _
      rw [hlen]
      refine ⟨by omega, by rw [g3_a a1]; exact a2, fun j hj => ?_, r⟩
      rw [g3_a (by omega)]
      exact a3 j hj
section RefH
variable {sc : Sc} {d : Nat} {T : Option Nat} {b : Nat → Nat} {n x0 : Nat} {I : Nat → Nat → Int32} {J : Nat → Nat → Int64}
/-- what the loop comes to -/
def LmR (sc : Sc) (d : Nat) (T : Option Nat) (I I' : Nat → Nat → Int32) (J J' : Nat → Nat → Int64) (b : Nat → Nat) (n x0 : Nat) (u : Option Value) : Sum (Nat × Nat) (Sg × Nat) → Prop
  | .inl (f, y) => 0 < f ∧ f < 7 ∧ I' 89 8 = nI y ∧ ∀ Q, Rn sc (d + 12) 218 25 [some (.ref 89), u] [] (K0, I, J, R1 T) Q = Q (some (.int (nI f))) (K0, I', J', R1 T)
  | .inr (σ, p) => RB I' J' b n x0 σ p ∧ GdL σ ∧ ∀ Q, Rn sc (d + 12) 218 25 [some (.ref 89), u] [] (K0, I, J, R1 T) Q = Q (some (.int (nI 0))) (K0, I', J', R1 T)
theorem lp_text (hx : x0 ≤ 2043) : ∀ (m : Nat) (σ : Sg) (p : Nat) (I : Nat → Nat → Int32) (J : Nat → Nat → Int64) (u : Option Value), σ.1.length + m = 25 → RB I J b n x0 σ p → GdL σ → ∃ I' J', FrB x0 I I' ∧ LmR sc d T I I' J J' b n x0 u (rdT b n m σ p) := by
  intro m
  induction m with
  | zero =>
    intro σ p I J u hm h
    have := h.2.2.2.2.2.2.2.1
    omega
  | succ m ih =>
    intro σ p I J u hm h g
    have t := h.1
    have k := h.2.2.1
    have hb : ∀ k, k < n → b k < 256 := fun k hk => (t.2.2 k hk).2
    have k9 := k.2.2.1
    have tl := tT_lt (p := p) hb
    have e1 := tks (p := p) hb (s := 42) (by decide) (by decide) (c := 0) rfl
    rw [rdT]
    by_cases c : tK b n p = 42
    · rw [if_pos c]
      refine ⟨I, J, FrB_r, h, g, fun Q => ?_⟩
      rw [x218_25]
      simp (disch := first | assumption | omega | decide) only [x218_26, x218_27, x218_28, x218_29, x218_30, x218_31, x218_32, x218_33, x218_34, x218_35, x218_36, x218_37, ↓reduceIte, Option.toList, List.nil_append, List.cons_append, nI_add, pk_mul, n_and, n_or, n_xor, nI_leI, nI_ltI, nI_eq, n_z, uI_s, uI_n, bI_n0, bI_n1, bT, bF, if_true, if_false, not_true, not_false_eq_true, pk_div, pk_rem, Nat.reduceEqDiff, Nat.reduceLeDiff, Nat.reduceLT, Nat.reduceAdd, Nat.reduceMul, Nat.reduceSub, Nat.not_lt_zero, Nat.zero_le, reduceCtorEq, ite_self, n_rem, and_self, and_true, true_and, and_false, false_and, k9, e1, c]
    · rw [if_neg c]
      obtain ⟨I1, J1, f1, r1⟩ := sp_clsM (sc := sc) (d := d) (T := T) hx h
      rcases ec : clF b n σ p with ⟨f, y⟩ | ⟨σ', p'⟩
      · rw [ec] at r1
        obtain ⟨z1, z2, z3, z4⟩ := r1
        have f0 : ¬ f = 0 := by omega
        refine ⟨I1, J1, f1, z1, z2, z3, fun Q => ?_⟩
        rw [x218_25]
        simp (disch := first | assumption | omega | decide) only [x218_26, x218_27, x218_28, x218_29, x218_30, x218_31, x218_32, x218_33, x218_34, x218_35, x218_36, x218_37, ↓reduceIte, Option.toList, List.nil_append, List.cons_append, nI_add, pk_mul, n_and, n_or, n_xor, nI_leI, nI_ltI, nI_eq, n_z, uI_s, uI_n, bI_n0, bI_n1, bT, bF, if_true, if_false, not_true, not_false_eq_true, pk_div, pk_rem, Nat.reduceEqDiff, Nat.reduceLeDiff, Nat.reduceLT, Nat.reduceAdd, Nat.reduceMul, Nat.reduceSub, Nat.not_lt_zero, Nat.zero_le, reduceCtorEq, ite_self, n_rem, and_self, and_true, true_and, and_false, false_and, k9, e1, c, z4, f0]
      · rw [ec] at r1
        obtain ⟨z1, z4⟩ := r1
        have hl := cl_len ec
        obtain ⟨I2, J2, f2, r2⟩ := ih σ' p' I1 J1 (some (.int (nI 0))) (by omega) z1 (gd_cl t.1 h.2.1 g ec)
        have st : ∀ Q, Rn sc (d + 12) 218 25 [some (.ref 89), u] [] (K0, I, J, R1 T) Q = Rn sc (d + 12) 218 25 [some (.ref 89), some (.int (nI 0))] [] (K0, I1, J1, R1 T) Q := fun Q => by
          rw [x218_25]
          simp (disch := first | assumption | omega | decide) only [x218_26, x218_27, x218_28, x218_29, x218_30, x218_31, x218_32, x218_33, x218_34, x218_35, x218_36, x218_37, ↓reduceIte, Option.toList, List.nil_append, List.cons_append, nI_add, pk_mul, n_and, n_or, n_xor, nI_leI, nI_ltI, nI_eq, n_z, uI_s, uI_n, bI_n0, bI_n1, bT, bF, if_true, if_false, not_true, not_false_eq_true, pk_div, pk_rem, Nat.reduceEqDiff, Nat.reduceLeDiff, Nat.reduceLT, Nat.reduceAdd, Nat.reduceMul, Nat.reduceSub, Nat.not_lt_zero, Nat.zero_le, reduceCtorEq, ite_self, n_rem, and_self, and_true, true_and, and_false, false_and, k9, e1, c, z4]
        refine ⟨I2, J2, FrB_t f1 f2, ?_⟩
        show LmR sc d T I I2 J J2 b n x0 u (rdT b n m σ' p')
        rcases e2 : rdT b n m σ' p' with ⟨f, y⟩ | ⟨σ2, p2⟩
        · rw [e2] at r2
          obtain ⟨a1, a2, a3, a4⟩ := r2
          exact ⟨a1, a2, a3, fun Q => (st Q).trans (a4 Q)⟩
        · rw [e2] at r2
          obtain ⟨a1, a2, a4⟩ := r2
          exact ⟨a1, a2, fun Q => (st Q).trans (a4 Q)⟩
/-- what readText comes to -/
def TmR (I' : Nat → Nat → Int32) (x0 : Nat) : Sum (Nat × Nat) (Sg × Nat) → Int32 → Prop
  | .inl (f, y), r => 0 < f ∧ f < 7 ∧ I' 89 8 = nI y ∧ r = nI f
  | .inr (σ, _), r => OtM I' x0 σ.2.2.2 ∧ σ.2.2.2.length ≤ 300 ∧ ClM I' x0 σ.1 σ.2.1 ∧ GdL σ ∧ r = nI 0
theorem sp_text {a : Nat} (ha : a < 4) (tp : TpM I b n) (h2 : I 90 2 = nI a) : ∃ I' J' r, FrB (681 * a) I I' ∧ TmR I' (681 * a) (rdT b n 25 sg0 0) r ∧ ∀ Q, Rn sc (d + 12) 218 0 [some (.ref 89), none] [] (K0, I, J, R1 T) Q = Q (some (.int r)) (K0, I', J', R1 T) := by
  obtain ⟨x0, ex⟩ : ∃ x, x = 681 * a := ⟨_, rfl⟩
  obtain ⟨I1, eI⟩ : ∃ X, X = uI (uI (uI (uI (uI I 89 12 (nI x0)) 92 x0 (nI 0)) 89 13 (nI 0)) 89 19 (nI 0)) 89 7 (nI 0) := ⟨_, rfl⟩
  have g : ∀ c k, (c ≠ 89 ∨ (k ≠ 12 ∧ k ≠ 13 ∧ k ≠ 19 ∧ k ≠ 7)) → (c ≠ 92 ∨ k ≠ x0) → I1 c k = I c k := fun c k a1 a2 => by rw [eI, uI_n (by omega), uI_n (by omega), uI_n (by omega), uI_n (by omega), uI_n (by omega)]
  obtain ⟨I2, J2, f2, t2, q2⟩ := sp_nextM (sc := sc) (d := d + 10) (T := T) (J := J) (I := I1) (p := 0) (TpM_r tp (fun k hk => g _ _ (by omega) (by omega)) (fun k => g _ _ (by omega) (by omega))) (Nat.zero_le n) (by rw [eI, uI_s])
  have st : ∀ Q, Rn sc (d + 12) 218 0 [some (.ref 89), none] [] (K0, I, J, R1 T) Q = Rn sc (d + 12) 218 25 [some (.ref 89), none] [] (K0, I2, J2, R1 T) Q := fun Q => by
    rw [eI, ex] at q2
    simp (disch := first | assumption | omega | decide) only [x218_0, x218_1, x218_2, x218_3, x218_4, x218_5, x218_6, x218_7, x218_8, x218_9, x218_10, x218_11, x218_12, x218_13, x218_14, x218_15, x218_16, x218_17, x218_18, x218_19, x218_20, x218_21, x218_22, x218_23, x218_24, ↓reduceIte, Option.toList, List.nil_append, List.cons_append, nI_add, pk_mul, n_and, n_or, n_xor, nI_leI, nI_ltI, nI_eq, n_z, uI_s, uI_n, bI_n0, bI_n1, bT, bF, if_true, if_false, not_true, not_false_eq_true, pk_div, pk_rem, Nat.reduceEqDiff, Nat.reduceLeDiff, Nat.reduceLT, Nat.reduceAdd, Nat.reduceMul, Nat.reduceSub, Nat.not_lt_zero, Nat.zero_le, reduceCtorEq, ite_self, n_rem, and_self, and_true, true_and, and_false, false_and, h2, q2]
  have i12 : I2 89 12 = nI x0 := by rw [f2 _ _ (by omega), eI, uI_n (by omega), uI_n (by omega), uI_n (by omega), uI_n (by omega), uI_s]
  have r0 : RB I2 J2 b n x0 sg0 0 := by
    refine ⟨TpM_r tp (fun k hk => by rw [f2 _ _ (by omega), g _ _ (by omega) (by omega)]) (fun k => by rw [f2 _ _ (by omega), g _ _ (by omega) (by omega)]), Nat.zero_le n, t2, i12, ⟨?_, fun j hj => (by cases hj)⟩, Nat.zero_le _, ?_, by decide, ?_, fun k hk => (by cases hk), fun L hL k i e p q he => (by cases he)⟩
    · rw [f2 _ _ (by omega), eI, uI_n (by omega), uI_n (by omega), uI_s]
      rfl
    · rw [f2 _ _ (by omega), eI, uI_n (by omega), uI_n (by omega), uI_n (by omega), uI_s]
      rfl
    · rw [f2 _ _ (by omega), eI, uI_n (by omega), uI_s]
      rfl
  have g0 : GdL sg0 := ⟨fun x hx => (by cases hx), fun x hx => (by cases hx), fun L hL => ⟨fun _ k hk => (by cases hk), fun k i e p q he => (by cases he)⟩⟩
  obtain ⟨I3, J3, f3, r3⟩ := lp_text (sc := sc) (d := d) (T := T) (show x0 ≤ 2043 by omega) 25 sg0 0 I2 J2 none rfl r0 g0
  rw [← ex]
  have fr : FrB x0 I I3 := fun c k a1 a2 a3 => by rw [f3 c k a1 a2 a3, f2 c k (by omega), g c k (by omega) (by omega)]
  rcases e2 : rdT b n 25 sg0 0 with ⟨f, y⟩ | ⟨σ2, p2⟩
  · rw [e2] at r3
    obtain ⟨a1, a2, a3, a4⟩ := r3
    exact ⟨I3, J3, nI f, fr, ⟨a1, a2, a3, rfl⟩, fun Q => (st Q).trans (a4 Q)⟩
  · rw [e2] at r3
    obtain ⟨a1, a2, a4⟩ := r3
    have n3 := tp.1
    have sl := (tS_le (b := b) a1.2.1).2
    have ol := a1.2.2.2.2.2.1
    exact ⟨I3, J3, nI 0, fr, ⟨a1.2.2.2.2.1, by omega, a1.2.2.2.2.2.2, a2, rfl⟩, fun Q => (st Q).trans (a4 Q)⟩
end RefH
