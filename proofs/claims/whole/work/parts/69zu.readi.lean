/-! clauses: the class's reading of a text -/
def CLive (I : Nat → Nat → Int32) (t : Nat) (b : Nat → Nat) (n : Nat) (σ : Sg) (p : Nat) : Prop := (∃ L, LvS I t b n L σ.2.2.1 p) ∧ ClC I t σ.1 σ.2.1 ∧ σ.1.length ≤ 24
def ClR (I : Nat → Nat → Int32) (t : Nat) (b : Nat → Nat) (n : Nat) : Sum (Nat × Nat) (Sg × Nat) → Prop
  | .inl (f, x) => DdC I t f x
  | .inr (σ, p) => CLive I t b n σ p
theorem DdC_c {I I' : Nat → Nat → Int32} {t f x : Nat} (h : DdC I t f x) (e1 : ∀ k, I' 67 k = I 67 k) (e2 : I' (47 + 5 * t) 1 = I (47 + 5 * t) 1) : DdC I' t f x := by
  obtain ⟨h2, h0, h7, h3, ⟨u, hu, h1⟩, κ, hk, h6⟩ := h
  exact ⟨(e1 _).trans h2, h0, h7, (e1 _).trans h3, ⟨u, hu, e2.trans h1⟩, κ, hk, (e1 _).trans h6⟩
theorem LvS_o {I I' : Nat → Nat → Int32} {t : Nat} {b : Nat → Nat} {n L L' p : Nat} {cs : List Nat} (h : LvS I t b n L cs p) (e1 : ∀ k, k ≠ 8 → I' 67 k = I 67 k) (e8 : I' 67 8 = nI L') (e2 : I' (47 + 5 * t) 1 = I (47 + 5 * t) 1) (e3 : ∀ k, I' (48 + 5 * t) k = I (48 + 5 * t) k) (e4 : ∀ k, I' 68 k = I 68 k) : LvS I' t b n L' cs p := by
  obtain ⟨hT, hp, ⟨k4, k5, k6, k7⟩, h2, h8, hC, hl⟩ := h
  exact ⟨⟨hT.1, (e1 _ (by decide)).trans hT.2.1, fun k hk => ⟨(e4 k).trans (hT.2.2 k hk).1, (hT.2.2 k hk).2⟩⟩, hp, ⟨(e1 _ (by decide)).trans k4, (e1 _ (by decide)).trans k5, (e1 _ (by decide)).trans k6, fun q => (e1 _ (by decide)).trans (k7 q)⟩, (e1 _ (by decide)).trans h2, e8, CdC_c hC e2 e3, hl.1, (e1 _ (by decide)).trans hl.2⟩
section ReadI
variable {sc : Sc} {d : Nat} {t : Nat} {b : Nat → Nat} {n : Nat} {I : Nat → Nat → Int32} {J : Nat → Nat → Int64}
theorem sp_law {σ : Sg} {p : Nat} (ht : t < 4) (h : CLive I t b n σ p) (h24 : σ.1.length < 24) (hW : tK b n p < 2) : ∃ I', FrW t I I' ∧ ClR I' t b n (match smr b n (lv1 b n (tK b n p) 8).1 (tX b n p) with
    | .inl e => .inl e
    | .inr (c, p1) => if tK b n p1 = 38 then .inr ((σ.1 ++ [(tK b n p, 0, 0)], setL σ.2.1 (tK b n p) (some (σ.1.length, σ.2.2.1.length, σ.2.2.1.length + c.1.length, σ.2.2.2.length, σ.2.2.2.length + c.2.length)), σ.2.2.1 ++ c.1, σ.2.2.2 ++ c.2), tX b n p1) else .inl (1, tS b n p1)) ∧ ∀ Q, Rn sc (d + 78) 34 0 [some (.ref 67), some (.int (nI (tK b n p)))] [] (K0, I, J, R1 (some (47 + 5 * t))) Q = Q none (K0, I', J, R1 (some (47 + 5 * t))) := by
  obtain ⟨cl, lw, cs, out⟩ := σ
  obtain ⟨⟨L0, hL⟩, hC, -⟩ := h
  have hL : LvS I t b n L0 cs p := hL
  have hC : ClC I t cl lw := hC
  have h24 : cl.length < 24 := h24
  obtain ⟨W, eW⟩ : ∃ W, W = tK b n p := ⟨_, rfl⟩
  rw [← eW] at hW ⊢
  have hCd := hL.2.2.2.2.2.1
  have n3 := hL.1.1
  have hl := hL.2.2.2.2.2.2.1
  obtain ⟨tk1, tk2⟩ := tk_st hL.2.1 (show tK b n p ≠ 42 by omega)
  have sl := (tS_le (b := b) tk1).2
  -- the law, its clause, where it begins
  obtain ⟨I1, eI1⟩ : ∃ X, X = uI I 67 8 (nI W) := ⟨_, rfl⟩
  have h31 : I1 (47 + 5 * t) 3 = nI cl.length := by rw [eI1, uI_n (by omega)]; exact hC.1
  obtain ⟨I2, eI2⟩ : ∃ X, X = uI (uI I1 (49 + 5 * t) cl.length (nI (W + 0 * 64 + 0 * 65536))) (47 + 5 * t) 3 (nI (cl.length + 1)) := ⟨_, rfl⟩
  have ad := sp_addC (sc := sc) (d := d + 77) (J := J) (T := some (47 + 5 * t)) (W := W) (F := 0) (S := 0) ht h31 h24 (by omega) (by omega)
  rw [← eI2] at ad
  have u2 : I2 (47 + 5 * t) 1 = nI cs.length := by rw [eI2, uI_n (by omega), uI_n (by omega), eI1, uI_n (by omega)]; exact hCd.1
  obtain ⟨I3, eI3⟩ : ∃ X, X = uI I2 (50 + 5 * t) W (nI cs.length) := ⟨_, rfl⟩
  have g3' : ∀ c k, (c ≠ 67 ∨ k ≠ 8) → (c < 49 + 5 * t ∨ 50 + 5 * t < c) → (c ≠ 47 + 5 * t ∨ k ≠ 3) → I3 c k = I c k := fun c k a1 a2 a3 => by rw [eI3, uI_n (by omega), eI2, uI_n (by omega), uI_n (by omega), eI1, uI_n (by omega)]
  have l3 : LvS I3 t b n W cs p := LvS_o hL (fun k hk => g3' _ _ (by omega) (by omega) (by omega)) (by rw [eI3, uI_n (by omega), eI2, uI_n (by omega), uI_n (by omega), eI1, uI_s]) (g3' _ _ (by omega) (by omega) (by omega)) (fun k => g3' _ _ (by omega) (by omega) (by omega)) (fun k => g3' _ _ (by omega) (by omega) (by omega))
  obtain ⟨I4, f4, l4, q4⟩ := nxL (sc := sc) (d := d + 72) (J := J) (T := some (47 + 5 * t)) l3
  have mL := (ma_lv (sc := sc) (b := b) (n := n) ht hW 8 (Nat.le_refl 8)).1
  have sS := ma_smr ht (by decide) mL (ln_lv 8).1 (d + 77) (by omega)
  have x38 := ms_expect (sc := sc) (d := d + 71) (T := some (47 + 5 * t)) (t := t) (b := b) (n := n) (L := W) (w := 38) (by decide)
  obtain ⟨I5, f5, s5, q5⟩ := sS I4 J (.inr (cs, tX b n p)) l4
  obtain ⟨I6, f6, s6, q6⟩ := x38 I5 J _ s5
  have f36 : FrZ t I3 I6 := FrZ_t f4 (FrZ_t f5 f6)
  have fw : ∀ v, FrW t I (uI I6 (51 + 5 * t) W v) := fun v c k a1 a2 => by rw [uI_n (by omega), f36 c k (by omega) (by omega) (by omega), g3' c k (by omega) (by omega) (by omega)]
  have st : ∀ v, I6 (47 + 5 * t) 1 = v → ∀ Q, Rn sc (d + 78) 34 0 [some (.ref 67), some (.int (nI W))] [] (K0, I, J, R1 (some (47 + 5 * t))) Q = Q none (K0, uI I6 (51 + 5 * t) W v, J, R1 (some (47 + 5 * t))) := fun v hv Q => by
    have ad' := ad
    rw [eI1] at ad'
    have q4' := q4
    rw [eI3] at q4'
    simp (disch := first | assumption | omega | decide) only [x34_0, x34_1, x34_2, x34_3, x34_4, x34_5, x34_6, x34_7, x34_9, x34_10, x34_12, x34_13, x34_14, x34_17, x34_18, x34_19, x34_20, x34_21, x34_22, x34_23, x34_24, x34_25, x34_26, x34_28, x34_29, x34_30, x34_33, x34_8r (a0 := 47 + 5 * t) (by omega) (kd_t ht), x34_11 (a := 47 + 5 * t) (kd_t ht) (by omega), vr_4 ht, x34_15 (a := 47 + 5 * t) (kd_t ht) (by omega), x34_16 (a := 50 + 5 * t) (n := 2) (by omega) (kd_f ht), x34_27 (a := 47 + 5 * t) (kd_t ht) (by omega), vr_5 ht, x34_31 (a := 47 + 5 * t) (kd_t ht) (by omega), x34_32 (a := 51 + 5 * t) (n := 2) (by omega) (kd_o ht), ↓reduceIte, Option.toList, List.nil_append, List.cons_append, nI_add, pk_mul, n_and, n_or, n_xor, nI_leI, nI_ltI, nI_eq, n_z, uI_s, uI_n, bI_n0, bI_n1, bT, bF, if_true, if_false, not_true, not_false_eq_true, pk_div, pk_rem, Nat.reduceEqDiff, Nat.reduceLeDiff, Nat.reduceLT, Nat.reduceAdd, Nat.reduceMul, Nat.reduceSub, Nat.not_lt_zero, Nat.zero_le, reduceCtorEq, ite_self, n_rem, and_self, and_true, true_and, and_false, false_and, show valR (some (47 + 5 * t)) = .ref (47 + 5 * t) from rfl, ad', u2, q4', q5, q6, hv]
  have dd : ∀ f x, DdC I6 t f x → ∃ I', FrW t I I' ∧ DdC I' t f x ∧ ∀ Q, Rn sc (d + 78) 34 0 [some (.ref 67), some (.int (nI W))] [] (K0, I, J, R1 (some (47 + 5 * t))) Q = Q none (K0, I', J, R1 (some (47 + 5 * t))) := fun f x hD => by
    obtain ⟨u, hu, e1⟩ := hD.2.2.2.2.1
    exact ⟨_, fw (nI u), DdC_c hD (fun k => uI_n (by omega)) (uI_n (by omega)), st (nI u) e1⟩
  rw [ap_r] at s6
  rcases e1 : smr b n (lv1 b n W 8).1 (tX b n p) with ⟨f, x⟩ | ⟨c, p1⟩
  · rw [e1, fin_l, ap_l] at s6
    exact dd f x s6
  · rw [e1, fin_r, fin_x] at s6
    unfold xpt at s6
    show ∃ I', FrW t I I' ∧ ClR I' t b n (if tK b n p1 = 38 then .inr ((cl ++ [(W, 0, 0)], setL lw W (some (cl.length, cs.length, cs.length + c.1.length, out.length, out.length + c.2.length)), cs ++ c.1, out ++ c.2), tX b n p1) else .inl (1, tS b n p1)) ∧ ∀ Q, Rn sc (d + 78) 34 0 [some (.ref 67), some (.int (nI W))] [] (K0, I, J, R1 (some (47 + 5 * t))) Q = Q none (K0, I', J, R1 (some (47 + 5 * t)))
    by_cases c38 : tK b n p1 = 38
    · rw [if_pos c38, fin_r] at s6
      have s6 : LvS I6 t b n W (cs ++ c.1) (tX b n p1) := s6
      rw [if_pos c38]
      have u6 := s6.2.2.2.2.2.1.1
      have ul := s6.2.2.2.2.2.2.1
      have sl6 := (tS_le (b := b) s6.2.1).2
      rw [List.length_append] at u6 ul
      refine ⟨_, fw _, ⟨⟨W, LvS_o s6 (fun k hk => uI_n (by omega)) ?_ (uI_n (by omega)) (fun k => uI_n (by omega)) (fun k => uI_n (by omega))⟩, ⟨?_, fun k hk => ?_, fun L hL2 => ?_⟩, ?_⟩, st _ u6⟩
      · rw [uI_n (by omega)]
        exact s6.2.2.2.2.1
      · show uI I6 (51 + 5 * t) W _ (47 + 5 * t) 3 = nI (cl ++ [(W, 0, 0)]).length
        rw [uI_n (by omega), f36 _ _ (by omega) (by omega) (by omega), eI3, uI_n (by omega), eI2, uI_s, List.length_append, List.length_cons, List.length_nil]
      · have hk : k < (cl ++ [(W, 0, 0)]).length := hk
        rw [List.length_append, List.length_cons, List.length_nil] at hk
        rw [uI_n (by omega), f36 _ _ (by omega) (by omega) (by omega), eI3, uI_n (by omega), eI2, uI_n (by omega)]
        by_cases e : k = cl.length
        · rw [e, uI_s, g3_e]
        · rw [uI_n (by omega), eI1, uI_n (by omega), g3_a (by omega)]
          exact hC.2.1 k (by omega)
      · obtain ⟨o1, o2⟩ := hC.2.2 L hL2
        show (setL lw W _ L = none → _) ∧ ∀ k i e p q, setL lw W _ L = some (k, i, e, p, q) → _
        unfold setL
        by_cases e : L = W
        · rw [if_pos e]
          refine ⟨fun q => (by cases q), fun k i e' p' q' he => ?_⟩
          have he := Option.some.inj he
          have i1 : cs.length = i := (Prod.mk.inj (Prod.mk.inj he).2).1
          have i2 : cs.length + c.1.length = e' := (Prod.mk.inj (Prod.mk.inj (Prod.mk.inj he).2).2).1
          refine ⟨by omega, ?_, ?_⟩
          · rw [uI_n (by omega), f36 _ _ (by omega) (by omega) (by omega), eI3, e, uI_s, i1]
          · rw [e, uI_s, i2]
        · rw [if_neg e]
          refine ⟨fun q => ?_, fun k i e' p' q' he => ?_⟩
          · rw [uI_n (by omega), f36 _ _ (by omega) (by omega) (by omega), eI3, uI_n (by omega), eI2, uI_n (by omega), uI_n (by omega), eI1, uI_n (by omega)]
            exact o1 q
          · obtain ⟨a1, a2, a3⟩ := o2 k i e' p' q' he
            refine ⟨a1, ?_, ?_⟩
            · rw [uI_n (by omega), f36 _ _ (by omega) (by omega) (by omega), eI3, uI_n (by omega), eI2, uI_n (by omega), uI_n (by omega), eI1, uI_n (by omega)]
              exact a2
            · rw [uI_n (by omega), f36 _ _ (by omega) (by omega) (by omega), eI3, uI_n (by omega), eI2, uI_n (by omega), uI_n (by omega), eI1, uI_n (by omega)]
              exact a3
      · show (cl ++ [(W, 0, 0)]).length ≤ 24
        rw [List.length_append, List.length_cons, List.length_nil]
        omega
    · rw [if_neg c38, fin_l] at s6
      rw [if_neg c38]
      exact dd 1 (tS b n p1) s6
theorem rdn_i (lo hi q : Nat) : (∃ e, rdN b n lo hi q = .inl e) ∨ (rdN b n lo hi q = .inr (([], []), tX b n q) ∧ tV b n q ≤ hi ∧ tK b n q = 41) := by
  unfold rdN
  by_cases c1 : tK b n q = 41
  · rw [if_pos c1]
    by_cases c2 : lo ≤ tV b n q ∧ tV b n q ≤ hi
    · rw [if_pos c2]
      exact Or.inr ⟨rfl, c2.2, c1⟩
    · rw [if_neg c2]
      exact Or.inl ⟨_, rfl⟩
  · rw [if_neg c1]
    exact Or.inl ⟨_, rfl⟩
theorem xp_i (w q : Nat) : (xpt b n w ([], []) q = .inl (1, tS b n q) ∧ tK b n q ≠ w) ∨ (xpt b n w ([], []) q = .inr (([], []), tX b n q) ∧ tK b n q = w) := by
  unfold xpt
  by_cases c : tK b n q = w
  · rw [if_pos c]
    exact Or.inr ⟨rfl, c⟩
  · rw [if_neg c]
    exact Or.inl ⟨rfl, c⟩
theorem hi_l (W : Nat) : hiF W ≤ 60 ∧ h2F W ≤ 999 ∧ loF W ≤ 1 ∧ wdW W < 44 := by
  unfold hiF h2F loF wdW
  refine ⟨?_, ?_, ?_, ?_⟩
  · repeat' split
    all_goals omega
  · repeat' split
    all_goals omega
  · repeat' split
    all_goals omega
  · repeat' split
    all_goals omega
theorem sp_deed {σ : Sg} {p : Nat} (ht : t < 4) (h : CLive I t b n σ p) (h24 : σ.1.length < 24) (hW : 2 ≤ tK b n p ∧ tK b n p ≤ 7) : ∃ I', FrW t I I' ∧ ClR I' t b n (match bodyF b n (tK b n p) (tX b n p) with
    | .inl e => .inl e
    | .inr (F, S, p3) => if tK b n p3 = 38 then .inr ((σ.1 ++ [(tK b n p, F, S)], σ.2.1, σ.2.2), tX b n p3) else .inl (1, tS b n p3)) ∧ ∀ Q, Rn sc (d + 78) 35 0 [some (.ref 67), some (.int (nI (tK b n p))), none, none] [] (K0, I, J, R1 (some (47 + 5 * t))) Q = Q none (K0, I', J, R1 (some (47 + 5 * t))) := by
  obtain ⟨cl, lw, cs, out⟩ := σ
  obtain ⟨⟨L0, hL⟩, hC, -⟩ := h
  have hL : LvS I t b n L0 cs p := hL
  have hC : ClC I t cl lw := hC
  have h24 : cl.length < 24 := h24
  obtain ⟨W, eW⟩ : ∃ W, W = tK b n p := ⟨_, rfl⟩
  rw [← eW] at hW ⊢
  obtain ⟨b1, b2, b3, b4⟩ := hi_l W
  obtain ⟨r1, r2, r3⟩ := ro_t W (by omega) hW.1
  obtain ⟨tk1, tk2⟩ := tk_st hL.2.1 (show tK b n p ≠ 42 by omega)
  obtain ⟨I1, f1, l1, q1⟩ := nxL (sc := sc) (d := d + 72) (J := J) (T := some (47 + 5 * t)) hL
  obtain ⟨I2, v1, f2, v1l, s2, hv1, q2⟩ := ms_rd (sc := sc) (d := d + 71) (J := J) (T := some (47 + 5 * t)) (L := L0) (lo := loF W) (hi := hiF W) (by omega) (by omega) (.inr (cs, tX b n p)) l1
  have x38 := ms_expect (sc := sc) (d := d + 71) (T := some (47 + 5 * t)) (t := t) (b := b) (n := n) (L := L0) (w := 38) (by decide)
  have w8 : W < 8 := by omega
  -- the clause put down
  have put : ∀ (Ix : Nat → Nat → Int32) (F S : Nat), FrZ t I Ix → F ≤ 10000 → S ≤ 10000 → ∃ I', FrW t I I' ∧ (∀ f x, DdC Ix t f x → DdC I' t f x) ∧ (∀ p', LvS Ix t b n L0 cs p' → CLive I' t b n (cl ++ [(W, F, S)], lw, cs, out) p') ∧ ∀ Q, Rn sc (d + 77) 90 0 [some (.ref (47 + 5 * t)), some (.int (nI W)), some (.int (nI F)), some (.int (nI S))] [] (K0, Ix, J, R1 (some (47 + 5 * t))) Q = Q none (K0, I', J, R1 (some (47 + 5 * t))) := by
    intro Ix F S fx hF hS
    have cx := ClC_z ht hC fx
    refine ⟨_, ?_, ?_, ?_, sp_addC (sc := sc) (d := d + 77) (J := J) (T := some (47 + 5 * t)) (W := W) ht cx.1 h24 hF hS⟩
    · exact FrW_t (FrW_z fx) (fun c k a1 a2 => by rw [uI_n (by omega), uI_n (by omega)])
    · exact fun f x hD => DdC_c hD (fun k => by rw [uI_n (by omega), uI_n (by omega)]) (by rw [uI_n (by omega), uI_n (by omega)])
    · intro p' hp'
      refine ⟨⟨L0, LvS_o hp' (fun k hk => by rw [uI_n (by omega), uI_n (by omega)]) (by rw [uI_n (by omega), uI_n (by omega)]; exact hp'.2.2.2.2.1) (by rw [uI_n (by omega), uI_n (by omega)]) (fun k => by rw [uI_n (by omega), uI_n (by omega)]) (fun k => by rw [uI_n (by omega), uI_n (by omega)])⟩, ⟨?_, fun k hk => ?_, fun L hL2 => ?_⟩, ?_⟩
      · show uI _ _ _ _ _ _ = nI (cl ++ [(W, F, S)]).length
        rw [uI_s, List.length_append, List.length_cons, List.length_nil]
      · have hk : k < (cl ++ [(W, F, S)]).length := hk
        rw [List.length_append, List.length_cons, List.length_nil] at hk
        rw [uI_n (by omega)]
        by_cases e : k = cl.length
        · rw [e, uI_s, g3_e]
        · rw [uI_n (by omega), g3_a (by omega)]
          exact cx.2.1 k (by omega)
      · obtain ⟨o1, o2⟩ := cx.2.2 L hL2
        refine ⟨fun q => ?_, fun k i e' p' q' he => ?_⟩
        · rw [uI_n (by omega), uI_n (by omega)]
          exact o1 q
        · obtain ⟨a1, a2, a3⟩ := o2 k i e' p' q' he
          exact ⟨a1, by rw [uI_n (by omega), uI_n (by omega)]; exact a2, by rw [uI_n (by omega), uI_n (by omega)]; exact a3⟩
      · show (cl ++ [(W, F, S)]).length ≤ 24
        rw [List.length_append, List.length_cons, List.length_nil]
        omega
  have f12 := FrZ_t f1 f2
  rw [ap_r] at s2
  by_cases c7 : W = 7
  · obtain ⟨I3, f3, s3, q3⟩ := x38 I2 J _ s2
    obtain ⟨I4, fw, pd, pl, q4⟩ := put I3 v1 0 (FrZ_t f12 f3) v1l (by omega)
    have st : ∀ Q, Rn sc (d + 78) 35 0 [some (.ref 67), some (.int (nI W)), none, none] [] (K0, I, J, R1 (some (47 + 5 * t))) Q = Q none (K0, I4, J, R1 (some (47 + 5 * t))) := fun Q => by
      rw [c7] at r1 r2 q2 q4
      rw [c7]
      simp (disch := first | assumption | omega | decide) only [x35_0, x35_1, x35_2, x35_3, x35_4, x35_5, x35_6, x35_7, x35_8, x35_9, x35_10, x35_11, x35_12, x35_13, x35_14, x35_15, x35_16, x35_17, x35_18, x35_19, x35_20, x35_21, x35_22, x35_23, x35_24, x35_25, x35_26, x35_27, x35_28, x35_29, x35_30, x35_31, x35_32, x35_33, x35_34, x35_35, x35_37, x35_36r (a0 := 47 + 5 * t) (by omega) (kd_t ht), ↓reduceIte, Option.toList, List.nil_append, List.cons_append, nI_add, pk_mul, n_and, n_or, n_xor, nI_leI, nI_ltI, nI_eq, n_z, uI_s, uI_n, bI_n0, bI_n1, bT, bF, if_true, if_false, not_true, not_false_eq_true, pk_div, pk_rem, Nat.reduceEqDiff, Nat.reduceLeDiff, Nat.reduceLT, Nat.reduceAdd, Nat.reduceMul, Nat.reduceSub, Nat.not_lt_zero, Nat.zero_le, reduceCtorEq, ite_self, n_rem, and_self, and_true, true_and, and_false, false_and, show valR (some (47 + 5 * t)) = .ref (47 + 5 * t) from rfl, q1, r1, r2, q2, q3, q4]
    refine ⟨I4, fw, ?_, st⟩
    unfold bodyF
    rcases rdn_i (b := b) (n := n) (loF W) (hiF W) (tX b n p) with ⟨e, h1⟩ | ⟨h1, -, -⟩
    · rw [h1, fin_l, ap_l] at s3
      rw [h1]
      exact pd e.1 e.2 s3
    · have ev := hv1 cs _ _ _ rfl h1
      rw [h1, fin_r, List.append_nil, ap_r] at s3
      rw [h1]
      show ClR I4 t b n (match (if W = 7 then .inr (tV b n (tX b n p), 0, tX b n (tX b n p)) else _ : Sum (Nat × Nat) (Nat × Nat × Nat)) with
        | .inl e => .inl e
        | .inr (F, S, p3) => if tK b n p3 = 38 then .inr ((cl ++ [(W, F, S)], lw, cs, out), tX b n p3) else .inl (1, tS b n p3))
      rw [if_pos c7]
      show ClR I4 t b n (if tK b n (tX b n (tX b n p)) = 38 then .inr ((cl ++ [(W, tV b n (tX b n p), 0)], lw, cs, out), tX b n (tX b n (tX b n p))) else .inl (1, tS b n (tX b n (tX b n p))))
      rcases xp_i (b := b) (n := n) 38 (tX b n (tX b n p)) with ⟨h2, k2⟩ | ⟨h2, k2⟩
      · rw [h2, fin_l] at s3
        rw [if_neg k2]
        exact pd _ _ s3
      · rw [h2, fin_r, List.append_nil] at s3
        rw [if_pos k2, ← ev]
        exact pl _ s3
  · obtain ⟨r4, r5⟩ := r3 (by omega)
    have xw := ms_expect (sc := sc) (d := d + 71) (T := some (47 + 5 * t)) (t := t) (b := b) (n := n) (L := L0) (w := wdW W) b4
    obtain ⟨I3, f3, s3, q3⟩ := xw I2 J _ s2
    obtain ⟨I4, v2, f4, v2l, s4, hv2, q4⟩ := ms_rd (sc := sc) (d := d + 71) (J := J) (T := some (47 + 5 * t)) (L := L0) (lo := 0) (hi := h2F W) (by omega) (by omega) _ s3
    obtain ⟨I5, f5, s5, q5⟩ := x38 I4 J _ s4
    obtain ⟨I6, fw, pd, pl, q6⟩ := put I5 v1 v2 (FrZ_t f12 (FrZ_t f3 (FrZ_t f4 f5))) v1l v2l
    have st : ∀ Q, Rn sc (d + 78) 35 0 [some (.ref 67), some (.int (nI W)), none, none] [] (K0, I, J, R1 (some (47 + 5 * t))) Q = Q none (K0, I6, J, R1 (some (47 + 5 * t))) := fun Q => by
      simp (disch := first | assumption | omega | decide) only [x35_0, x35_1, x35_2, x35_3, x35_4, x35_5, x35_6, x35_7, x35_8, x35_9, x35_10, x35_11, x35_12, x35_13, x35_14, x35_15, x35_16, x35_17, x35_18, x35_19, x35_20, x35_21, x35_22, x35_23, x35_24, x35_25, x35_26, x35_27, x35_28, x35_29, x35_30, x35_31, x35_32, x35_33, x35_34, x35_35, x35_37, x35_36r (a0 := 47 + 5 * t) (by omega) (kd_t ht), ↓reduceIte, Option.toList, List.nil_append, List.cons_append, nI_add, pk_mul, n_and, n_or, n_xor, nI_leI, nI_ltI, nI_eq, n_z, uI_s, uI_n, bI_n0, bI_n1, bT, bF, if_true, if_false, not_true, not_false_eq_true, pk_div, pk_rem, Nat.reduceEqDiff, Nat.reduceLeDiff, Nat.reduceLT, Nat.reduceAdd, Nat.reduceMul, Nat.reduceSub, Nat.not_lt_zero, Nat.zero_le, reduceCtorEq, ite_self, n_rem, and_self, and_true, true_and, and_false, false_and, show valR (some (47 + 5 * t)) = .ref (47 + 5 * t) from rfl, c7, q1, r1, r2, q2, r4, q3, r5, q4, q5, q6]
    refine ⟨I6, fw, ?_, st⟩
    unfold bodyF
    rcases rdn_i (b := b) (n := n) (loF W) (hiF W) (tX b n p) with ⟨e, h1⟩ | ⟨h1, -, -⟩
    · rw [h1, fin_l, ap_l, ap_l, ap_l] at s5
      rw [h1]
      exact pd e.1 e.2 s5
    · have ev := hv1 cs _ _ _ rfl h1
      rw [h1, fin_r, List.append_nil, ap_r] at s5 hv2
      rw [h1]
      show ClR I6 t b n (match (if W = 7 then _ else match xpt b n (wdW W) ([], []) (tX b n (tX b n p)) with
        | .inl e => .inl e
        | .inr (_, p2) => match rdN b n 0 (h2F W) p2 with
          | .inl e => .inl e
          | .inr (_, p3) => .inr (tV b n (tX b n p), tV b n p2, p3) : Sum (Nat × Nat) (Nat × Nat × Nat)) with
        | .inl e => .inl e
        | .inr (F, S, p3) => if tK b n p3 = 38 then .inr ((cl ++ [(W, F, S)], lw, cs, out), tX b n p3) else .inl (1, tS b n p3))
      rw [if_neg c7]
      rcases xp_i (b := b) (n := n) (wdW W) (tX b n (tX b n p)) with ⟨h2, k2⟩ | ⟨h2, k2⟩
      · rw [h2, fin_l, ap_l, ap_l] at s5
        rw [h2]
        exact pd _ _ s5
      · rw [h2, fin_r, List.append_nil] at s5 hv2
        rw [ap_r] at s5
        rw [h2]
        show ClR I6 t b n (match (match rdN b n 0 (h2F W) (tX b n (tX b n (tX b n p))) with
          | .inl e => .inl e
          | .inr (_, p3) => .inr (tV b n (tX b n p), tV b n (tX b n (tX b n (tX b n p))), p3) : Sum (Nat × Nat) (Nat × Nat × Nat)) with
          | .inl e => .inl e
          | .inr (F, S, p3) => if tK b n p3 = 38 then .inr ((cl ++ [(W, F, S)], lw, cs, out), tX b n p3) else .inl (1, tS b n p3))
        rcases rdn_i (b := b) (n := n) 0 (h2F W) (tX b n (tX b n (tX b n p))) with ⟨e, h3⟩ | ⟨h3, -, -⟩
        · rw [h3, fin_l, ap_l] at s5
          rw [h3]
          exact pd e.1 e.2 s5
        · have ev2 := hv2 cs _ _ _ rfl h3
          rw [h3, fin_r, List.append_nil, ap_r] at s5
          rw [h3]
          show ClR I6 t b n (if tK b n (tX b n (tX b n (tX b n (tX b n p)))) = 38 then .inr ((cl ++ [(W, tV b n (tX b n p), tV b n (tX b n (tX b n (tX b n p))))], lw, cs, out), tX b n (tX b n (tX b n (tX b n (tX b n p))))) else .inl (1, tS b n (tX b n (tX b n (tX b n (tX b n p))))))
          rcases xp_i (b := b) (n := n) 38 (tX b n (tX b n (tX b n (tX b n p)))) with ⟨h4, k4⟩ | ⟨h4, k4⟩
          · rw [h4, fin_l] at s5
            rw [if_neg k4]
            exact pd _ _ s5
          · rw [h4, fin_r, List.append_nil] at s5
            rw [if_pos k4, ← ev, ← ev2]
            exact pl _ s5
/-- one clause in the loop -/
theorem sp_clause {σ : Sg} {p : Nat} (ht : t < 4) (h : CLive I t b n σ p) (hK : tK b n p ≠ 42) : ∃ I' v3 v4, FrW t I I' ∧ ClR I' t b n (clF b n σ p) ∧ ∀ i u3 u4 Q, Rn sc (d + 79) 31 29 [some (.ref 67), some (.ref (47 + 5 * t)), some (.int (nI i)), u3, u4] [] (K0, I, J, R1 (some (47 + 5 * t))) Q = Rn sc (d + 79) 31 52 [some (.ref 67), some (.ref (47 + 5 * t)), some (.int (nI i)), some (.int v3), some (.int v4)] [] (K0, I', J, R1 (some (47 + 5 * t))) Q := by
  obtain ⟨L0, hL⟩ := h.1
  have k6 := hL.2.2.1.2.2.1
  have kl := tK_lt (b := b) (n := n) (p := p)
  have fc := sp_fcl (sc := sc) (d := d + 77) (J := J) ht kl h.2.1 h.2.2
  obtain ⟨f, ef⟩ : ∃ f, f = fcF σ (tK b n p) := ⟨_, rfl⟩
  rw [← ef] at fc
  have f7 : f < 7 := by
    rw [ef]
    unfold fcF
    repeat' split
    all_goals omega
  by_cases c0 : f = 0
  · rw [c0] at fc
    have hs : ¬ 7 < tK b n p ∧ ¬ (tK b n p ≤ 1 ∧ (σ.2.1 (tK b n p)).isSome = true) ∧ ¬ 24 ≤ σ.1.length := by
      rw [c0] at ef
      unfold fcF at ef
      by_cases a1 : 7 < tK b n p
      · rw [if_pos a1] at ef
        omega
      · rw [if_neg a1] at ef
        by_cases a2 : tK b n p ≤ 1 ∧ (σ.2.1 (tK b n p)).isSome = true
        · rw [if_pos a2] at ef
          omega
        · rw [if_neg a2] at ef
          by_cases a3 : 24 ≤ σ.1.length
          · rw [if_pos a3] at ef
            omega
          · exact ⟨a1, a2, a3⟩
    have ec : clF b n σ p = if tK b n p ≤ 1 then (match smr b n (lv1 b n (tK b n p) 8).1 (tX b n p) with
    | .inl e => .inl e
    | .inr (c, p1) => if tK b n p1 = 38 then .inr ((σ.1 ++ [(tK b n p, 0, 0)], setL σ.2.1 (tK b n p) (some (σ.1.length, σ.2.2.1.length, σ.2.2.1.length + c.1.length, σ.2.2.2.length, σ.2.2.2.length + c.2.length)), σ.2.2.1 ++ c.1, σ.2.2.2 ++ c.2), tX b n p1) else .inl (1, tS b n p1)) else (match bodyF b n (tK b n p) (tX b n p) with
    | .inl e => .inl e
    | .inr (F, S, p3) => if tK b n p3 = 38 then .inr ((σ.1 ++ [(tK b n p, F, S)], σ.2.1, σ.2.2), tX b n p3) else .inl (1, tS b n p3)) := by
      unfold clF
      rw [if_neg hs.1, if_neg hs.2.1, if_neg hs.2.2]
      rfl
    rw [ec]
    by_cases c1 : tK b n p ≤ 1
    · have c1' : ¬ 1 < tK b n p := by omega
      rw [if_pos c1]
      obtain ⟨I1, f1, s1, q1⟩ := sp_law (sc := sc) (d := d) (J := J) ht h (by omega) (by omega)
      refine ⟨I1, nI (tK b n p), nI 0, f1, s1, fun i u3 u4 Q => ?_⟩
      simp (disch := first | assumption | omega | decide) only [x31_29, x31_30, x31_31, x31_32, x31_33, x31_34, x31_35, x31_36, x31_37, x31_38, x31_39, x31_40, x31_41, x31_42, x31_43, x31_44, x31_45, x31_46, x31_47, x31_48, ↓reduceIte, Option.toList, List.nil_append, List.cons_append, nI_add, pk_mul, n_and, n_or, n_xor, nI_leI, nI_ltI, nI_eq, n_z, uI_s, uI_n, bI_n0, bI_n1, bT, bF, if_true, if_false, not_true, not_false_eq_true, pk_div, pk_rem, Nat.reduceEqDiff, Nat.reduceLeDiff, Nat.reduceLT, Nat.reduceAdd, Nat.reduceMul, Nat.reduceSub, Nat.not_lt_zero, Nat.zero_le, reduceCtorEq, ite_self, n_rem, and_self, and_true, true_and, and_false, false_and, k6, fc, c1', q1]
    · have c1' : 1 < tK b n p := by omega
      rw [if_neg c1]
      obtain ⟨I1, f1, s1, q1⟩ := sp_deed (sc := sc) (d := d) (J := J) ht h (by omega) (by omega)
      refine ⟨I1, nI (tK b n p), nI 0, f1, s1, fun i u3 u4 Q => ?_⟩
      simp (disch := first | assumption | omega | decide) only [x31_29, x31_30, x31_31, x31_32, x31_33, x31_34, x31_35, x31_36, x31_37, x31_38, x31_39, x31_40, x31_41, x31_42, x31_43, x31_44, x31_45, x31_46, x31_47, x31_48, x31_49, x31_50, x31_51, ↓reduceIte, Option.toList, List.nil_append, List.cons_append, nI_add, pk_mul, n_and, n_or, n_xor, nI_leI, nI_ltI, nI_eq, n_z, uI_s, uI_n, bI_n0, bI_n1, bT, bF, if_true, if_false, not_true, not_false_eq_true, pk_div, pk_rem, Nat.reduceEqDiff, Nat.reduceLeDiff, Nat.reduceLT, Nat.reduceAdd, Nat.reduceMul, Nat.reduceSub, Nat.not_lt_zero, Nat.zero_le, reduceCtorEq, ite_self, n_rem, and_self, and_true, true_and, and_false, false_and, k6, fc, c1', q1]
  · have ec : clF b n σ p = .inl (f, tS b n p) := by
      rw [ef] at c0 ⊢
      unfold fcF at c0 ⊢
      unfold clF
      by_cases a1 : 7 < tK b n p
      · rw [if_pos a1, if_pos a1]
      · rw [if_neg a1] at c0 ⊢
        rw [if_neg a1]
        by_cases a2 : tK b n p ≤ 1 ∧ (σ.2.1 (tK b n p)).isSome = true
        · rw [if_pos a2, if_pos a2]
        · rw [if_neg a2] at c0 ⊢
          rw [if_neg a2]
          by_cases a3 : 24 ≤ σ.1.length
          · rw [if_pos a3, if_pos a3]
          · rw [if_neg a3] at c0
            exact absurd rfl c0
    rw [ec]
    obtain ⟨I1, f1, d1, q1⟩ := sp_failL (sc := sc) (d := d + 78) (J := J) (T := some (47 + 5 * t)) (w := f) (by omega) hL
    refine ⟨I1, nI (tK b n p), nI f, FrW_z f1, d1, fun i u3 u4 Q => ?_⟩
    simp (disch := first | assumption | omega | decide) only [x31_29, x31_30, x31_31, x31_32, x31_33, x31_34, x31_35, x31_36, x31_37, x31_38, x31_39, x31_40, x31_41, ↓reduceIte, Option.toList, List.nil_append, List.cons_append, nI_add, pk_mul, n_and, n_or, n_xor, nI_leI, nI_ltI, nI_eq, n_z, uI_s, uI_n, bI_n0, bI_n1, bT, bF, if_true, if_false, not_true, not_false_eq_true, pk_div, pk_rem, Nat.reduceEqDiff, Nat.reduceLeDiff, Nat.reduceLT, Nat.reduceAdd, Nat.reduceMul, Nat.reduceSub, Nat.not_lt_zero, Nat.zero_le, reduceCtorEq, ite_self, n_rem, and_self, and_true, true_and, and_false, false_and, k6, fc, c0, q1]
def rdT (b : Nat → Nat) (n : Nat) : Nat → Sg → Nat → Sum (Nat × Nat) (Sg × Nat)
  | 0, σ, p => .inr (σ, p)
  | m + 1, σ, p => if tK b n p = 42 then .inr (σ, p) else match clF b n σ p with
    | .inl e => .inl e
    | .inr (σ', p') => rdT b n m σ' p'
theorem lp_into (ht : t < 4) : ∀ (m i : Nat) (σ : Sg) (p : Nat) (I : Nat → Nat → Int32) (u3 u4 : Option Value), i + m = 25 → CLive I t b n σ p → ∃ I' u3' u4' i', FrW t I I' ∧ i' ≤ 25 ∧ ClR I' t b n (rdT b n m σ p) ∧ ∀ Q, Rn sc (d + 79) 31 19 [some (.ref 67), some (.ref (47 + 5 * t)), some (.int (nI i)), u3, u4] [] (K0, I, J, R1 (some (47 + 5 * t))) Q = Rn sc (d + 79) 31 54 [some (.ref 67), some (.ref (47 + 5 * t)), some (.int (nI i')), u3', u4'] [] (K0, I', J, R1 (some (47 + 5 * t))) Q := by
  intro m
  induction m with
  | zero =>
    intro i σ p I u3 u4 hi h
    have li : 24 < i := by omega
    refine ⟨I, u3, u4, i, FrW_r, by omega, h, fun Q => ?_⟩
    rw [x31_19]
    simp (disch := first | assumption | omega | decide) only [x31_20, x31_21, ↓reduceIte, Option.toList, List.nil_append, List.cons_append, nI_add, pk_mul, n_and, n_or, n_xor, nI_leI, nI_ltI, nI_eq, n_z, uI_s, uI_n, bI_n0, bI_n1, bT, bF, if_true, if_false, not_true, not_false_eq_true, pk_div, pk_rem, Nat.reduceEqDiff, Nat.reduceLeDiff, Nat.reduceLT, Nat.reduceAdd, Nat.reduceMul, Nat.reduceSub, Nat.not_lt_zero, Nat.zero_le, reduceCtorEq, ite_self, n_rem, and_self, and_true, true_and, and_false, false_and, li]
  | succ m ih =>
    intro i σ p I u3 u4 hi h
    have li : ¬ 24 < i := by omega
    obtain ⟨L0, hL⟩ := h.1
    have h2 := hL.2.2.2.1
    have k6 := hL.2.2.1.2.2.1
    have kl := tK_lt (b := b) (n := n) (p := p)
    rw [rdT]
    by_cases c : tK b n p = 42
    · rw [if_pos c]
      rw [c] at k6
      refine ⟨I, u3, u4, i, FrW_r, by omega, h, fun Q => ?_⟩
      rw [x31_19]
      simp (disch := first | assumption | omega | decide) only [x31_20, x31_21, x31_22, x31_23, x31_24, x31_25, x31_26, x31_27, x31_28, ↓reduceIte, Option.toList, List.nil_append, List.cons_append, nI_add, pk_mul, n_and, n_or, n_xor, nI_leI, nI_ltI, nI_eq, n_z, uI_s, uI_n, bI_n0, bI_n1, bT, bF, if_true, if_false, not_true, not_false_eq_true, pk_div, pk_rem, Nat.reduceEqDiff, Nat.reduceLeDiff, Nat.reduceLT, Nat.reduceAdd, Nat.reduceMul, Nat.reduceSub, Nat.not_lt_zero, Nat.zero_le, reduceCtorEq, ite_self, n_rem, and_self, and_true, true_and, and_false, false_and, li, h2, k6]
    · rw [if_neg c]
      obtain ⟨I1, v3, v4, f1, s1, q1⟩ := sp_clause (sc := sc) (d := d) (J := J) ht h c
      have st : ∀ Q, Rn sc (d + 79) 31 19 [some (.ref 67), some (.ref (47 + 5 * t)), some (.int (nI i)), u3, u4] [] (K0, I, J, R1 (some (47 + 5 * t))) Q = Rn sc (d + 79) 31 19 [some (.ref 67), some (.ref (47 + 5 * t)), some (.int (nI (i + 1))), some (.int v3), some (.int v4)] [] (K0, I1, J, R1 (some (47 + 5 * t))) Q := fun Q => by
        rw [x31_19]
        simp (disch := first | assumption | omega | decide) only [x31_20, x31_21, x31_22, x31_23, x31_24, x31_25, x31_26, x31_27, x31_28, ↓reduceIte, Option.toList, List.nil_append, List.cons_append, nI_add, pk_mul, n_and, n_or, n_xor, nI_leI, nI_ltI, nI_eq, n_z, uI_s, uI_n, bI_n0, bI_n1, bT, bF, if_true, if_false, not_true, not_false_eq_true, pk_div, pk_rem, Nat.reduceEqDiff, Nat.reduceLeDiff, Nat.reduceLT, Nat.reduceAdd, Nat.reduceMul, Nat.reduceSub, Nat.not_lt_zero, Nat.zero_le, reduceCtorEq, ite_self, n_rem, and_self, and_true, true_and, and_false, false_and, li, h2, k6, c]
        rw [q1]
        simp (disch := first | assumption | omega | decide) only [x31_52, x31_53, ↓reduceIte, Option.toList, List.nil_append, List.cons_append, nI_add, pk_mul, n_and, n_or, n_xor, nI_leI, nI_ltI, nI_eq, n_z, uI_s, uI_n, bI_n0, bI_n1, bT, bF, if_true, if_false, not_true, not_false_eq_true, pk_div, pk_rem, Nat.reduceEqDiff, Nat.reduceLeDiff, Nat.reduceLT, Nat.reduceAdd, Nat.reduceMul, Nat.reduceSub, Nat.not_lt_zero, Nat.zero_le, reduceCtorEq, ite_self, n_rem, and_self, and_true, true_and, and_false, false_and, c2_r]
      rcases e1 : clF b n σ p with ⟨f, x⟩ | ⟨σ', p'⟩
      · rw [e1] at s1
        have s1 : DdC I1 t f x := s1
        have d2 := s1.1
        have f0 : ¬ f = 0 := by
          have := s1.2.1
          omega
        have f7 := s1.2.2.1
        refine ⟨I1, some (.int v3), some (.int v4), i + 1, f1, by omega, s1, fun Q => ?_⟩
        rw [st Q, x31_19]
        by_cases l2 : 24 < i + 1
        · simp (disch := first | assumption | omega | decide) only [x31_20, x31_21, ↓reduceIte, Option.toList, List.nil_append, List.cons_append, nI_add, pk_mul, n_and, n_or, n_xor, nI_leI, nI_ltI, nI_eq, n_z, uI_s, uI_n, bI_n0, bI_n1, bT, bF, if_true, if_false, not_true, not_false_eq_true, pk_div, pk_rem, Nat.reduceEqDiff, Nat.reduceLeDiff, Nat.reduceLT, Nat.reduceAdd, Nat.reduceMul, Nat.reduceSub, Nat.not_lt_zero, Nat.zero_le, reduceCtorEq, ite_self, n_rem, and_self, and_true, true_and, and_false, false_and, l2]
        · simp (disch := first | assumption | omega | decide) only [x31_20, x31_21, x31_22, x31_23, x31_24, ↓reduceIte, Option.toList, List.nil_append, List.cons_append, nI_add, pk_mul, n_and, n_or, n_xor, nI_leI, nI_ltI, nI_eq, n_z, uI_s, uI_n, bI_n0, bI_n1, bT, bF, if_true, if_false, not_true, not_false_eq_true, pk_div, pk_rem, Nat.reduceEqDiff, Nat.reduceLeDiff, Nat.reduceLT, Nat.reduceAdd, Nat.reduceMul, Nat.reduceSub, Nat.not_lt_zero, Nat.zero_le, reduceCtorEq, ite_self, n_rem, and_self, and_true, true_and, and_false, false_and, l2, d2, f0]
      · rw [e1] at s1
        obtain ⟨I2, u3', u4', i', f2, i2, s2, q2⟩ := ih (i + 1) σ' p' I1 (some (.int v3)) (some (.int v4)) (by omega) s1
        exact ⟨I2, u3', u4', i', FrW_t f1 f2, i2, s2, fun Q => (st Q).trans (q2 Q)⟩
def sg0 : Sg := ([], fun _ => none, [], [])
theorem sp_clear {l : Nat} (ht : t < 4) (hl : l = 47 + 5 * t) : ∃ I', (∀ c k, c ≠ 47 + 5 * t ∧ c ≠ 50 + 5 * t ∧ c ≠ 51 + 5 * t → I' c k = I c k) ∧ I' (47 + 5 * t) 1 = nI 0 ∧ I' (47 + 5 * t) 3 = nI 0 ∧ (∀ L, L < 2 → I' (50 + 5 * t) L = -1) ∧ ∀ T Q, Rn sc d 86 0 [some (.ref (47 + 5 * t)), none] [] (K0, I, J, R1 T) Q = Q none (K0, I', J, R1 T) := by
  obtain ⟨I', eI⟩ : ∃ X, X = uI (uI (uI (uI (uI (uI I (47 + 5 * t) 1 (nI 0)) (47 + 5 * t) 3 (nI 0)) (50 + 5 * t) 0 (-1)) (51 + 5 * t) 0 (-1)) (50 + 5 * t) 1 (-1)) (51 + 5 * t) 1 (-1) := ⟨_, rfl⟩
  refine ⟨I', fun c k hc => by rw [eI, uI_n (by omega), uI_n (by omega), uI_n (by omega), uI_n (by omega), uI_n (by omega), uI_n (by omega)], by rw [eI, uI_n (by omega), uI_n (by omega), uI_n (by omega), uI_n (by omega), uI_n (by omega), uI_s], by rw [eI, uI_n (by omega), uI_n (by omega), uI_n (by omega), uI_n (by omega), uI_s], fun L hL => ?_, fun T Q => ?_⟩
  · have : L = 0 ∨ L = 1 := by omega
    rcases this with rfl | rfl
    · rw [eI, uI_n (by omega), uI_n (by omega), uI_n (by omega), uI_s]
    · rw [eI, uI_n (by omega), uI_s]
  · rw [eI]
    simp (disch := first | assumption | omega | decide) only [x86_0r, x86_0n, x86_1, x86_3r, x86_3n, x86_4, x86_6, x86_7, x86_2 (a := 47 + 5 * t) (kd_t ht) (by omega), x86_5 (a := 47 + 5 * t) (kd_t ht) (by omega), ↓reduceIte, Option.toList, List.nil_append, List.cons_append, nI_add, pk_mul, n_and, n_or, n_xor, nI_leI, nI_ltI, nI_eq, n_z, uI_s, uI_n, bI_n0, bI_n1, bT, bF, if_true, if_false, not_true, not_false_eq_true, pk_div, pk_rem, Nat.reduceEqDiff, Nat.reduceLeDiff, Nat.reduceLT, Nat.reduceAdd, Nat.reduceMul, Nat.reduceSub, Nat.not_lt_zero, Nat.zero_le, reduceCtorEq, ite_self, n_rem, and_self, and_true, true_and, and_false, false_and, c2_r]
    rw [x86_8]
    simp (disch := first | assumption | omega | decide) only [x86_9, x86_10, x86_11r, x86_11n, x86_13, x86_14, x86_16r, x86_16n, x86_18, x86_19, x86_21, x86_22, x86_12 (a := 47 + 5 * t) (kd_t ht) (by omega), vr_4 ht, x86_15 (a := 50 + 5 * t) (n := 2) (by omega) (kd_f ht), x86_17 (a := 47 + 5 * t) (kd_t ht) (by omega), vr_5 ht, x86_20 (a := 51 + 5 * t) (n := 2) (by omega) (kd_o ht), ↓reduceIte, Option.toList, List.nil_append, List.cons_append, nI_add, pk_mul, n_and, n_or, n_xor, nI_leI, nI_ltI, nI_eq, n_z, uI_s, uI_n, bI_n0, bI_n1, bT, bF, if_true, if_false, not_true, not_false_eq_true, pk_div, pk_rem, Nat.reduceEqDiff, Nat.reduceLeDiff, Nat.reduceLT, Nat.reduceAdd, Nat.reduceMul, Nat.reduceSub, Nat.not_lt_zero, Nat.zero_le, reduceCtorEq, ite_self, n_rem, and_self, and_true, true_and, and_false, false_and, c2_r]
    rw [x86_8]
    simp (disch := first | assumption | omega | decide) only [x86_9, x86_10, x86_11r, x86_11n, x86_13, x86_14, x86_16r, x86_16n, x86_18, x86_19, x86_21, x86_22, x86_12 (a := 47 + 5 * t) (kd_t ht) (by omega), vr_4 ht, x86_15 (a := 50 + 5 * t) (n := 2) (by omega) (kd_f ht), x86_17 (a := 47 + 5 * t) (kd_t ht) (by omega), vr_5 ht, x86_20 (a := 51 + 5 * t) (n := 2) (by omega) (kd_o ht), ↓reduceIte, Option.toList, List.nil_append, List.cons_append, nI_add, pk_mul, n_and, n_or, n_xor, nI_leI, nI_ltI, nI_eq, n_z, uI_s, uI_n, bI_n0, bI_n1, bT, bF, if_true, if_false, not_true, not_false_eq_true, pk_div, pk_rem, Nat.reduceEqDiff, Nat.reduceLeDiff, Nat.reduceLT, Nat.reduceAdd, Nat.reduceMul, Nat.reduceSub, Nat.not_lt_zero, Nat.zero_le, reduceCtorEq, ite_self, n_rem, and_self, and_true, true_and, and_false, false_and, c2_r]
    rw [x86_8]
    simp (disch := first | assumption | omega | decide) only [x86_9, x86_10, x86_23, ↓reduceIte, Option.toList, List.nil_append, List.cons_append, nI_add, pk_mul, n_and, n_or, n_xor, nI_leI, nI_ltI, nI_eq, n_z, uI_s, uI_n, bI_n0, bI_n1, bT, bF, if_true, if_false, not_true, not_false_eq_true, pk_div, pk_rem, Nat.reduceEqDiff, Nat.reduceLeDiff, Nat.reduceLT, Nat.reduceAdd, Nat.reduceMul, Nat.reduceSub, Nat.not_lt_zero, Nat.zero_le, reduceCtorEq, ite_self, n_rem, and_self, and_true, true_and, and_false, false_and]
/-- what a text came to, in the class's memory -/
def ClT (I : Nat → Nat → Int32) (t : Nat) : Sum (Nat × Nat) (Sg × Nat) → Prop
  | .inl (f, x) => I 67 2 = nI f ∧ 0 < f ∧ f < 7 ∧ I 67 3 = nI x
  | .inr (σ, _) => I 67 2 = nI 0 ∧ I 67 3 = -1 ∧ CdC I t σ.2.2.1 ∧ ClC I t σ.1 σ.2.1 ∧ σ.2.2.1.length ≤ 300
theorem sp_into (ht : t < 4) (tp : TpC I b n) : ∃ I', (∀ c k, (c ≠ 67 ∨ k < 1 ∨ 8 < k) → (c < 47 + 5 * t ∨ 51 + 5 * t < c) → I' c k = I c k) ∧ I' 67 1 = nI 0 ∧ ClT I' t (rdT b n 25 sg0 0) ∧ ∀ T Q, Rn sc (d + 79) 31 0 [some (.ref 67), some (.ref (47 + 5 * t)), none, none, none] [] (K0, I, J, R1 T) Q = Q (some (.int (bI ((rdT b n 25 sg0 0).isRight = true)))) (K0, I', J, R1 (some (47 + 5 * t))) := by
  have n3 := tp.1
  obtain ⟨I1, f1, c1, c3, cL, q1⟩ := sp_clear (sc := sc) (d := d + 78) (I := I) (J := J) ht rfl
  obtain ⟨I2, eI⟩ : ∃ X, X = uI (uI (uI I1 67 2 (nI 0)) 67 3 (-1)) 67 4 (nI 0) := ⟨_, rfl⟩
  have g : ∀ c k, (c ≠ 67 ∨ k < 2 ∨ 4 < k) → I2 c k = I1 c k := fun c k hc => by rw [eI, uI_n (by omega), uI_n (by omega), uI_n (by omega)]
  have tp2 : TpC I2 b n := ⟨n3, by rw [g _ _ (by omega), f1 _ _ (by omega)]; exact tp.2.1, fun k hk => ⟨by rw [g _ _ (by omega), f1 _ _ (by omega)]; exact (tp.2.2 k hk).1, (tp.2.2 k hk).2⟩⟩
  obtain ⟨I3, f3, t3, q3⟩ := sp_next (sc := sc) (d := d + 73) (J := J) (T := some (47 + 5 * t)) tp2 (Nat.zero_le n) (by rw [eI, uI_s])
  have live : CLive I3 t b n sg0 0 := by
    refine ⟨⟨vN (I3 67 8), TpC_c tp2 f3, Nat.zero_le n, t3, ?_, (nI_vN _).symm, ⟨?_, fun j hj => (by cases hj)⟩, Nat.zero_le _, ?_⟩, ⟨?_, fun k hk => (by cases hk), fun L hL => ⟨fun _ => ?_, fun k i e p q he => (by cases he)⟩⟩, by decide⟩
    · rw [f3 _ _ (by omega), eI, uI_n (by omega), uI_n (by omega), uI_s]
    · show I3 (47 + 5 * t) 1 = nI 0
      rw [f3 _ _ (by omega), g _ _ (by omega)]
      exact c1
    · rw [f3 _ _ (by omega), eI, uI_n (by omega), uI_s]
    · show I3 (47 + 5 * t) 3 = nI 0
      rw [f3 _ _ (by omega), g _ _ (by omega)]
      exact c3
    · rw [f3 _ _ (by omega), g _ _ (by omega)]
      exact cL L hL
  obtain ⟨I4, u3', u4', i', f4, i4, s4, q4⟩ := lp_into (sc := sc) (d := d) (J := J) ht 25 0 sg0 0 I3 none none rfl live
  have fr : ∀ c k, (c ≠ 67 ∨ k < 1 ∨ 8 < k) → (c < 47 + 5 * t ∨ 51 + 5 * t < c) → uI I4 67 1 (nI 0) c k = I c k := fun c k a1 a2 => by rw [uI_n (by omega), f4 c k a1 a2, f3 c k (by omega), g c k (by omega), f1 c k (by omega)]
  have st : ∀ T Q, Rn sc (d + 79) 31 0 [some (.ref 67), some (.ref (47 + 5 * t)), none, none, none] [] (K0, I, J, R1 T) Q = Rn sc (d + 79) 31 57 [some (.ref 67), some (.ref (47 + 5 * t)), some (.int (nI i')), u3', u4'] [] (K0, uI I4 67 1 (nI 0), J, R1 (some (47 + 5 * t))) Q := fun T Q => by
    have q3' := q3
    rw [eI] at q3'
    simp (disch := first | assumption | omega | decide) only [x31_0, x31_1r, x31_1n, x31_3, x31_4, x31_6, x31_7, x31_8, x31_9, x31_10, x31_11, x31_12, x31_13, x31_14, x31_15, x31_16, x31_17, x31_18, x31_2 (a := 47 + 5 * t) (by omega), x31_5r (a0 := 47 + 5 * t) (by omega) (kd_t ht), ↓reduceIte, Option.toList, List.nil_append, List.cons_append, nI_add, pk_mul, n_and, n_or, n_xor, nI_leI, nI_ltI, nI_eq, n_z, uI_s, uI_n, bI_n0, bI_n1, bT, bF, if_true, if_false, not_true, not_false_eq_true, pk_div, pk_rem, Nat.reduceEqDiff, Nat.reduceLeDiff, Nat.reduceLT, Nat.reduceAdd, Nat.reduceMul, Nat.reduceSub, Nat.not_lt_zero, Nat.zero_le, reduceCtorEq, ite_self, n_rem, and_self, and_true, true_and, and_false, false_and, show valR (some (47 + 5 * t)) = .ref (47 + 5 * t) from rfl, c2_r, q1, q3']
    rw [q4 Q]
    simp (disch := first | assumption | omega | decide) only [x31_54, x31_55, x31_56, ↓reduceIte, Option.toList, List.nil_append, List.cons_append, nI_add, pk_mul, n_and, n_or, n_xor, nI_leI, nI_ltI, nI_eq, n_z, uI_s, uI_n, bI_n0, bI_n1, bT, bF, if_true, if_false, not_true, not_false_eq_true, pk_div, pk_rem, Nat.reduceEqDiff, Nat.reduceLeDiff, Nat.reduceLT, Nat.reduceAdd, Nat.reduceMul, Nat.reduceSub, Nat.not_lt_zero, Nat.zero_le, reduceCtorEq, ite_self, n_rem, and_self, and_true, true_and, and_false, false_and]
  rcases e1 : rdT b n 25 sg0 0 with ⟨f, x⟩ | ⟨σ, p⟩
  · rw [e1] at s4
    have s4 : DdC I4 t f x := s4
    obtain ⟨d2, d0, d7, d3, -⟩ := s4
    have f0 : ¬ f = 0 := by omega
    have d2' : uI I4 67 1 (nI 0) 67 2 = nI f := by rw [uI_n (by omega)]; exact d2
    refine ⟨uI I4 67 1 (nI 0), fr, uI_s, ⟨d2', d0, d7, by rw [uI_n (by omega)]; exact d3⟩, fun T Q => ?_⟩
    rw [st T Q, bI_f (show ¬ (Sum.inl (f, x) : Sum (Nat × Nat) (Sg × Nat)).isRight = true by
      show ¬ false = true
      decide)]
    simp (disch := first | assumption | omega | decide) only [x31_57, x31_58, x31_59, x31_60, x31_61, x31_62, x31_63, ↓reduceIte, Option.toList, List.nil_append, List.cons_append, nI_add, pk_mul, n_and, n_or, n_xor, nI_leI, nI_ltI, nI_eq, n_z, uI_s, uI_n, bI_n0, bI_n1, bT, bF, if_true, if_false, not_true, not_false_eq_true, pk_div, pk_rem, Nat.reduceEqDiff, Nat.reduceLeDiff, Nat.reduceLT, Nat.reduceAdd, Nat.reduceMul, Nat.reduceSub, Nat.not_lt_zero, Nat.zero_le, reduceCtorEq, ite_self, n_rem, and_self, and_true, true_and, and_false, false_and, d2, f0]
  · rw [e1] at s4
    obtain ⟨⟨L, hL⟩, hC, -⟩ : CLive I4 t b n σ p := s4
    have d2 := hL.2.2.2.1
    have hl := hL.2.2.2.2.2.2
    have sl := (tS_le (b := b) hL.2.1).2
    refine ⟨uI I4 67 1 (nI 0), fr, uI_s, ⟨by rw [uI_n (by omega)]; exact d2, by rw [uI_n (by omega)]; exact hl.2, CdC_c hL.2.2.2.2.2.1 (uI_n (by omega)) (fun k => uI_n (by omega)), ClC_c hC (uI_n (by omega)) (fun c k hc => uI_n (by omega)), by omega⟩, fun T Q => ?_⟩
    rw [st T Q, bI_t (show (Sum.inr (σ, p) : Sum (Nat × Nat) (Sg × Nat)).isRight = true from rfl)]
    simp (disch := first | assumption | omega | decide) only [x31_57, x31_58, x31_59, x31_60, x31_61, x31_62, x31_63, ↓reduceIte, Option.toList, List.nil_append, List.cons_append, nI_add, pk_mul, n_and, n_or, n_xor, nI_leI, nI_ltI, nI_eq, n_z, uI_s, uI_n, bI_n0, bI_n1, bT, bF, if_true, if_false, not_true, not_false_eq_true, pk_div, pk_rem, Nat.reduceEqDiff, Nat.reduceLeDiff, Nat.reduceLT, Nat.reduceAdd, Nat.reduceMul, Nat.reduceSub, Nat.not_lt_zero, Nat.zero_le, reduceCtorEq, ite_self, n_rem, and_self, and_true, true_and, and_false, false_and, d2]
end ReadI
