/-! what is foretold: days that leave the book alone come to the same -/
theorem EqB_u {A A' : Nat → Nat} {k v v' : Nat} (e : EqB A A') (h : v' = v) : EqB (upA A k v) (upA A' k v') := by
  intro j h1 h2
  by_cases hj : j = k
  · rw [upA_e hj, upA_e hj, h]
  · rw [upA_n hj, upA_n hj]
    exact e j h1 h2
theorem py_eq {g : (Nat → Nat) → Nat → Nat → Nat} {A A' : Nat → Nat} {h r : Nat} (hi : Ind g) (w0 : A 0 ≤ 12) (hh : h < 8) (hr : r < 4) (e : EqB A A') : EqB (pyA g A h r) (pyA g A' h r) := by
  have e1 : pyS g A' h r = pyS g A h r := by
    unfold pyS
    rw [hi A A' h r w0 hh hr e, e (28 + r) (by omega) (by omega)]
  unfold pyA
  exact EqB_u (EqB_u (EqB_u e (by rw [e1, e (28 + r) (by omega) (by omega)])) (by rw [e1, e (20 + h) (by omega) (by omega)])) (by rw [e1, e 10 (by omega) (by omega)])
theorem pyH_eq {g : (Nat → Nat) → Nat → Nat → Nat} {A A' : Nat → Nat} {r : Nat} (hi : Ind g) (hg : gB g) (w : Wf A) (hr : r < A 1) (hp : A 10 + 99 * 8 < 1000000) (e : EqB A A') : ∀ j, j ≤ 8 → EqB (pyH g r A j) (pyH g r A' j)
  | 0, _ => e
  | j + 1, hj => by
    have w0 : A 0 ≤ 12 := w.1.1
    have w1 : A 1 ≤ 4 := w.1.2.1
    have ih := pyH_eq hi hg w hr hp e j (by omega)
    obtain ⟨wj, pj, kj⟩ := pyH_inv hg w hr hp j (by omega)
    rw [pyH, pyH]
    unfold pyB
    rw [ih (12 + j) (by omega) (by omega)]
    by_cases c : pyH g r A j (12 + j) / 2 ^ r % 2 = 1
    · rw [if_pos c, if_pos c]
      exact py_eq hi wj.1.1 (by omega) (by omega) ih
    · rw [if_neg c, if_neg c]
      exact ih
theorem pyR_eq {g : (Nat → Nat) → Nat → Nat → Nat} {A A' : Nat → Nat} (hi : Ind g) (hg : gB g) (w : Wf A) (hp : A 10 = 0) (e : EqB A A') : ∀ j, j ≤ A 1 → EqB (pyR g A j) (pyR g A' j)
  | 0, _ => e
  | j + 1, hj => by
    have w1 : A 1 ≤ 4 := w.1.2.1
    have ih := pyR_eq hi hg w hp e j (by omega)
    obtain ⟨wj, pj, kj⟩ := pyR_inv hg w hp j (by omega)
    have e1 : pyR g A j 1 = A 1 := kj 1 (Or.inl (by omega))
    rw [pyR, pyR]
    exact pyH_eq hi hg wj (by omega) (by omega) ih 8 (by omega)
theorem p1_eq {g : (Nat → Nat) → Nat → Nat → Nat} {A A' : Nat → Nat} (hi : Ind g) (hg : gB g) (w : Wf A) (e : EqB A A') : EqB (p1A g A) (p1A g A') := by
  unfold p1A
  rw [e 1 (by omega) (by omega)]
  exact pyR_eq hi hg (up10_W w) upA_s (EqB_u e rfl) (A 1) (by rw [upA_n (by omega)]; exact Nat.le_refl _)
theorem dr_eq {A A' : Nat → Nat} (e : EqB A A') : EqB (drA A) (drA A') := EqB_u e (by rw [e 9 (by omega) (by omega)])
theorem tl_eq {A A' : Nat → Nat} {h r : Nat} (hh : h < 8) (e : EqB A A') : EqB (tlA A h r) (tkA A' h r) := by
  intro k h1 h2
  have : tlA A h r k = tkA A h r k := by
    unfold tlA
    exact wr_o (by omega)
  rw [this]
  exact EqB_u e (by rw [e (12 + h) (by omega) (by omega)]) k h1 h2
theorem can_eq {f : (Nat → Nat) → Nat → Nat → Int32} {A A' : Nat → Nat} {h r : Nat} (hi : Ind f) (w0 : A 0 ≤ 12) (hh : h < 8) (hr : r < 4) (e : EqB A A') : canB f A' h r = canB f A h r := by
  unfold canB
  rw [hi A A' h r w0 hh hr e, e (12 + h) (by omega) (by omega), e (32 + h) (by omega) (by omega)]
theorem hr_eq {f : (Nat → Nat) → Nat → Nat → Int32} {A A' : Nat → Nat} {hs s : Nat} (hi : Ind f) (w : Wf A) (hs1 : s < A 1) (e : EqB A A') : ∀ j, j ≤ 8 → EqB (hrN tlA f hs s A j) (hrN tkA f hs s A' j)
  | 0, _ => e
  | j + 1, hj => by
    have w1 : A 1 ≤ 4 := w.1.2.1
    have ih := hr_eq (hs := hs) hi w hs1 e j (by omega)
    obtain ⟨wj, kj⟩ := hr_inv (f := f) (hs := hs) tlK_1 w hs1 j (by omega)
    rw [hrN, hrN]
    unfold hrB
    rw [can_eq hi wj.1.1 (by omega) (by omega) ih]
    by_cases c : hs / 2 ^ j % 2 = 1 ∧ canB f (hrN tlA f hs s A j) j s = true
    · rw [if_pos c, if_pos c]
      exact tl_eq (by omega) ih
    · rw [if_neg c, if_neg c]
      exact ih
theorem ps_eq {f : (Nat → Nat) → Nat → Nat → Int32} {g : (Nat → Nat) → Nat → Nat → Nat} {A A' : Nat → Nat} (hf : Ind f) (hi : Ind g) (hg : gB g) (w : Wf A) (e : EqB A A') : EqB (psA tlA f g A) (psA tkA f g A') := by
  have e1 := p1_eq hi hg w e
  have e2 := dr_eq e1
  have e3 : EqB (p3A g A) (p3A g A') := dr_eq e2
  obtain ⟨w3, k3⟩ := p3_inv hg w
  have eQ : psQ g A' = psQ g A := by
    unfold psQ
    rw [e1 9 (by omega) (by omega)]
  have eR : psR g A' = psR g A := by
    unfold psR
    rw [e2 9 (by omega) (by omega), e 1 (by omega) (by omega)]
  have hQ : psQ g A < 8 := Nat.mod_lt _ (by decide)
  have eH : psH g A' = psH g A := by
    unfold psH
    rw [eQ, eR, e3 (12 + psQ g A) (by omega) (by omega), bes_c (fun k hk => e3 k (by omega) (by omega)) w3.1.1]
  unfold psA
  refine EqB_u ?_ (by rw [e 8 (by omega) (by omega)])
  unfold p4A
  rw [e 1 (by omega) (by omega)]
  by_cases c : A 1 = 0
  · rw [if_pos c, if_pos c]
    exact e1
  · rw [if_neg c, if_neg c, eH, eR]
    have hs : psR g A < p3A g A 1 := by
      rw [k3 1 (by unfold pyK; omega) (by omega)]
      exact Nat.mod_lt _ (by omega)
    exact hr_eq hf w3 hs e3 8 (by omega)
theorem hr_hi {f : (Nat → Nat) → Nat → Nat → Int32} {A : Nat → Nat} {hs s k : Nat} (hk : 1769 ≤ k) : ∀ j, j ≤ 8 → hrN tkA f hs s A j k = A k
  | 0, _ => rfl
  | j + 1, hj => by
    rw [hrN]
    unfold hrB
    split
    · rw [tk_o (by omega)]
      exact hr_hi hk j (by omega)
    · exact hr_hi hk j (by omega)
theorem ps_hi {f : (Nat → Nat) → Nat → Nat → Int32} {g : (Nat → Nat) → Nat → Nat → Nat} {A : Nat → Nat} {k : Nat} (hg : gB g) (w : Wf A) (hk : 1769 ≤ k) : psA tkA f g A k = A k := by
  obtain ⟨h1, h2, h3⟩ := p1_inv hg w
  obtain ⟨k1, k2⟩ := p3_inv hg w
  unfold psA p4A
  rw [upA_n (by omega)]
  split
  · exact h3 k (by unfold pyK; omega)
  · rw [hr_hi hk 8 (by omega)]
    exact k2 k (by unfold pyK; omega) (by omega)
def psN (tl : (Nat → Nat) → Nat → Nat → Nat → Nat) (f : (Nat → Nat) → Nat → Nat → Int32) (g : (Nat → Nat) → Nat → Nat → Nat) (A : Nat → Nat) : Nat → Nat → Nat
  | 0 => A
  | j + 1 => psA tl f g (psN tl f g A j)
theorem psN_inv {tl : (Nat → Nat) → Nat → Nat → Nat → Nat} {f : (Nat → Nat) → Nat → Nat → Int32} {g : (Nat → Nat) → Nat → Nat → Nat} {A : Nat → Nat} (ht : tlK tl) (hg : gB g) (w : Wf A) : ∀ j, A 8 + j ≤ 9999 → Wf (psN tl f g A j) ∧ psN tl f g A j 8 = A 8 + j ∧ ∀ k, k < 8 ∨ (32 ≤ k ∧ k < 1769) → psN tl f g A j k = A k
  | 0, _ => ⟨w, rfl, fun _ _ => rfl⟩
  | j + 1, hj => by
    obtain ⟨h1, h2, h3⟩ := psN_inv (f := f) ht hg w j (by omega)
    obtain ⟨k1, k2, k3, k4⟩ := ps_inv (f := f) ht hg h1 (by omega)
    refine ⟨k1, ?_, fun k hk => (k2 k hk).trans (h3 k hk)⟩
    rw [psN, k3]
    omega
theorem psN_hi {f : (Nat → Nat) → Nat → Nat → Int32} {g : (Nat → Nat) → Nat → Nat → Nat} {A : Nat → Nat} {k : Nat} (hg : gB g) (w : Wf A) (hk : 1769 ≤ k) : ∀ j, A 8 + j ≤ 9999 → psN tkA f g A j k = A k
  | 0, _ => rfl
  | j + 1, hj => by
    obtain ⟨h1, h2, h3⟩ := psN_inv (f := f) tlK_0 hg w j (by omega)
    rw [psN, ps_hi hg h1 hk]
    exact psN_hi hg w hk j (by omega)
theorem psN_eq {f : (Nat → Nat) → Nat → Nat → Int32} {g : (Nat → Nat) → Nat → Nat → Nat} {A : Nat → Nat} (hf : Ind f) (hi : Ind g) (hg : gB g) (w : Wf A) : ∀ j, A 8 + j ≤ 9999 → EqB (psN tlA f g A j) (psN tkA f g A j)
  | 0, _ => fun _ _ _ => rfl
  | j + 1, hj => by
    obtain ⟨h1, h2, h3⟩ := psN_inv (f := f) tlK_1 hg w j (by omega)
    exact ps_eq hf hi hg h1 (psN_eq hf hi hg w j (by omega))
def mnN (a b : Nat) : Nat := if a ≤ b then a else b
section Fore
variable {sc : Sc} {d : Nat} {T : Option Nat} {M : Nat → Nat → Int32} {f : (Nat → Nat) → Nat → Nat → Int32} {g : (Nat → Nat) → Nat → Nat → Nat}
theorem fo_C {I : Nat → Nat → Int32} {J : Nat → Nat → Int64} {A B : Nat → Nat} {n : Nat} {l2 l3 l4 l5 : Int32} (hn : n < 1000) (hF : BelC M (A 3) f) (hC : RntC M (A 3) g) (hg : gB g) (w : WW A B) (cI : CI I A B) (eM : txI I = M) : ∃ I', CI I' A B ∧ Twn I' 19 20 21 22 23 24 25 26 27 (psN tlA f g A (dyM A n)) ∧ (∀ c k, (46 ≤ c ∧ c ≤ 68) ∨ 89 ≤ c → I' c k = I c k) ∧ ∀ Q, Rn sc (d + 7) 131 32 [some (.ref 0), some (.int (nI n)), some (.int l2), some (.int l3), some (.int l4), some (.int l5), none] [] (K0, I, J, R1 T) Q = Rn sc (d + 7) 131 39 [some (.ref 0), some (.int (nI n)), some (.int l2), some (.int l3), some (.int l4), some (.int l5), some (.int (nI (dyM A n)))] [] (K0, I', J, R1 T) Q := by
  have wA := w.1
  have w1 : A 1 ≤ 4 := wA.1.2.1
  have w8 : A 8 ≤ 9999 := wA.1.2.2.2.2.2.2.2.2.1
  have hm : dyM A n ≤ n ∧ A 8 + dyM A n ≤ 9999 := by
    unfold dyM
    split <;> omega
  obtain ⟨I1, f1, t1, q1⟩ := sp_becTb (sc := sc) (d := d + 6) (J := J) (T := T) cI.1 w1
  obtain ⟨I', ⟨h1, h2⟩, h3⟩ := iterE (fun j I' => Twn I' 19 20 21 22 23 24 25 26 27 (psN tlA f g A j) ∧ ∀ c k, c ≠ 69 ∧ c ≠ 70 ∧ (c < 19 ∨ 27 < c) → I' c k = I c k) (fun j I' => fun Q => Rn sc (d + 7) 131 39 [some (.ref 0), some (.int (nI n)), some (.int l2), some (.int l3), some (.int l4), some (.int l5), some (.int (nI j))] [] (K0, I', J, R1 T) Q) (dyM A n) (by
    rintro j I2 hj ⟨t2, f2⟩
    obtain ⟨wj, ej, kj⟩ := psN_inv (f := f) tlK_1 hg wA j (by omega)
    obtain ⟨I3, f3, t3, q3⟩ := sp_passCb (sc := sc) (d := d) (J := J) (T := T) hF hC hg wj t2 ((txI_c (fun c k hc => f2 c k (by omega))).trans eM)
    have hr' := fun Q => sp_ruling (Q := Q) (sc := sc) (d := d + 5) (J := J) (T := T) (I := I2) wA (Twn_c cI.1 (fun c k hc => f2 c k (by omega)) (fun _ _ _ _ => rfl) ⟨wA.1.1, w1⟩)
    have e8 : I2 19 11 = nI (A 8 + j) := by rw [← ej]; exact tw_day t2
    have a1 : ¬ n ≤ j := by omega
    have a2 : ¬ 9999 ≤ A 8 + j := by omega
    refine ⟨I3, ⟨t3, fun c k hc => (f3 c k hc).trans (f2 c k hc)⟩, funext fun Q => ?_⟩
    show Rn _ _ _ _ _ _ _ _ = Rn _ _ _ _ _ _ _ _
    rw [x131_39]
    rcases lw_or (A 3) with ⟨a, e⟩ | e <;> rw [e] at q3 hr' <;> simp (disch := first | assumption | omega | decide) only [x131_0, x131_1, x131_2, x131_3, x131_4, x131_5, x131_6, x131_7, x131_8, x131_9, x131_10, x131_11, x131_12, x131_13, x131_14, x131_15, x131_16, x131_17, x131_18, x131_19, x131_20, x131_21, x131_22, x131_23, x131_24, x131_25, x131_26, x131_27, x131_28, x131_29, x131_30, x131_31, x131_32, x131_33, x131_34, x131_35, x131_36, x131_37, x131_38, x131_40, x131_41, x131_42, x131_43, x131_44, x131_45, x131_46, x131_47, x131_48, x131_49, x131_50, x131_51, x131_52, x131_53r, x131_53n, x131_54, x131_55, x131_56, x131_57, x131_58, x131_59, x131_60, x131_61, x131_62, x131_63, x131_64, x131_65, x131_66, x131_67, x131_68, ↓reduceIte, Option.toList, List.nil_append, List.cons_append, nI_add, pk_mul, n_and, n_or, n_xor, nI_leI, nI_ltI, nI_eq, n_z, uI_s, uI_n, bI_n0, bI_n1, bT, bF, if_true, if_false, not_true, not_false_eq_true, pk_div, pk_rem, Nat.reduceEqDiff, Nat.reduceLeDiff, Nat.reduceLT, Nat.reduceAdd, Nat.reduceMul, Nat.reduceSub, Nat.not_lt_zero, Nat.zero_le, reduceCtorEq, ite_self, n_rem, and_self, and_true, true_and, and_false, false_and, a1, e8, a2, hr', q3]) I1 ⟨t1, fun c k hc => f1 c k (by omega)⟩
  refine ⟨I', CI_c w cI (fun c k hc => h2 c k (by omega)), h1, fun c k hc => h2 c k (by omega), fun Q => ?_⟩
  rw [← congrFun h3 Q]
  simp (disch := first | assumption | omega | decide) only [x131_32, x131_33, x131_34, x131_35, x131_36, x131_37, x131_38, ↓reduceIte, Option.toList, List.nil_append, List.cons_append, nI_add, pk_mul, n_and, n_or, n_xor, nI_leI, nI_ltI, nI_eq, n_z, uI_s, uI_n, bI_n0, bI_n1, bT, bF, if_true, if_false, not_true, not_false_eq_true, pk_div, pk_rem, Nat.reduceEqDiff, Nat.reduceLeDiff, Nat.reduceLT, Nat.reduceAdd, Nat.reduceMul, Nat.reduceSub, Nat.not_lt_zero, Nat.zero_le, reduceCtorEq, ite_self, n_rem, and_self, and_true, true_and, and_false, false_and, q1]
theorem fo_M {I : Nat → Nat → Int32} {J : Nat → Nat → Int64} {A B : Nat → Nat} {n : Nat} {l2 l3 : Int32} (hF : BelM M (A 3) f) (hM : RntM M (A 3) g) (hg : gB g) (w : WW A B) (mI : MI I A B) (eM : txI I = M) (hn : n < 1000) : ∃ I' J', AtM I' 90 (psN tkA f g A (dyM A n)) ∧ (∀ k, 8 ≤ k → k < 32 → I' 98 k = nI (A k)) ∧ (∀ c k, c ≠ 90 ∧ c ≠ 95 ∧ c ≠ 97 ∧ c ≠ 98 ∧ (c ≠ 89 ∨ (k ≠ 23 ∧ k ≠ 24)) → I' c k = I c k) ∧ ∀ Q, Rn sc (d + 8) 263 22 [some (.ref 89), some (.int (nI n)), some (.int l2), some (.int l3), none, none] [] (K0, I, J, R1 T) Q = Rn sc (d + 8) 263 42 [some (.ref 89), some (.int (nI n)), some (.int l2), some (.int l3), some (.int (nI n)), none] [] (K0, I', J', R1 T) Q := by
  have wA := w.1
  have w8 : A 8 ≤ 9999 := wA.1.2.2.2.2.2.2.2.2.1
  have hm : dyM A n ≤ n ∧ A 8 + dyM A n ≤ 9999 := by
    unfold dyM
    split <;> omega
  have m0 : ∀ k, k < 1799 → I 90 k = nI (A k) := mI.1
  obtain ⟨I1, ⟨b1, b2⟩, b3⟩ := iterE (fun j I' => (∀ k, 8 ≤ k → k < 8 + j → I' 98 k = nI (A k)) ∧ ∀ c k, c ≠ 98 → I' c k = I c k) (fun j I' => fun Q => Rn sc (d + 8) 263 24 [some (.ref 89), some (.int (nI n)), some (.int l2), some (.int l3), some (.int (nI (8 + j))), none] [] (K0, I', J, R1 T) Q) 24 (by
    rintro j I2 hj ⟨k2, f2⟩
    have e0 : I2 90 (8 + j) = nI (A (8 + j)) := (f2 _ _ (by omega)).trans (m0 _ (by omega))
    have a1 : ¬ 32 ≤ 8 + j := by omega
    refine ⟨uI I2 98 (8 + j) (nI (A (8 + j))), ⟨fun k h1 h2 => ?_, fun c k hc => (uI_n (by omega)).trans (f2 c k hc)⟩, funext fun Q => ?_⟩
    · by_cases hk : k = 8 + j
      · rw [hk, uI_s]
      · rw [uI_n (by omega)]
        exact k2 k h1 (by omega)
    · show Rn _ _ _ _ _ _ _ _ = Rn _ _ _ _ _ _ _ _
      rw [x263_24]
      simp (disch := first | assumption | omega | decide) only [x263_0, x263_1, x263_2, x263_3, x263_4, x263_5, x263_6, x263_7, x263_8, x263_9, x263_10, x263_11, x263_12, x263_13, x263_14, x263_15, x263_16, x263_17, x263_18, x263_19, x263_20, x263_21, x263_22, x263_23, x263_25, x263_26, x263_27, x263_28, x263_29, x263_30, x263_31, x263_32, x263_33, x263_34, x263_35, x263_36, x263_37, x263_38, x263_39, x263_40, x263_41, x263_43, x263_44, x263_45, x263_46, x263_47, x263_48, x263_49, x263_50, x263_51, x263_52, x263_53, x263_54, x263_55, x263_56, x263_57, x263_58, x263_59, x263_60, x263_61, x263_62, x263_63, x263_64, x263_65, x263_66, x263_67, x263_68, x263_69, x263_70, x263_71, x263_72, x263_74, x263_75, x263_76, x263_77, x263_78, x263_79, x263_80, x263_81, x263_82, x263_83, x263_84, x263_85, x263_86, x263_87, x263_88, x263_89, x263_90, ↓reduceIte, Option.toList, List.nil_append, List.cons_append, nI_add, pk_mul, n_and, n_or, n_xor, nI_leI, nI_ltI, nI_eq, n_z, uI_s, uI_n, bI_n0, bI_n1, bT, bF, if_true, if_false, not_true, not_false_eq_true, pk_div, pk_rem, Nat.reduceEqDiff, Nat.reduceLeDiff, Nat.reduceLT, Nat.reduceAdd, Nat.reduceMul, Nat.reduceSub, Nat.not_lt_zero, Nat.zero_le, reduceCtorEq, ite_self, n_rem, and_self, and_true, true_and, and_false, false_and, a1, e0, Nat.add_assoc]) I ⟨fun k h1 h2 => by omega, fun _ _ _ => rfl⟩
  obtain ⟨I2, eI⟩ : ∃ X, X = uI I1 89 23 (nI 0) := ⟨_, rfl⟩
  have g2 : ∀ c k, c ≠ 98 ∧ (c ≠ 89 ∨ k ≠ 23) → I2 c k = I c k := fun c k hc => by rw [eI, uI_n (by omega)]; exact b2 c k (by omega)
  have g98 : ∀ k, I2 98 k = I1 98 k := fun k => by rw [eI, uI_n (by omega)]
  have z2 : I2 89 23 = nI 0 := by rw [eI, uI_s]
  have m2 : AtM I2 90 A := fun k hk => (g2 _ _ (by omega)).trans (m0 k hk)
  obtain ⟨⟨I', J'⟩, ⟨h1, h2⟩, h3⟩ := iterE (St := (Nat → Nat → Int32) × (Nat → Nat → Int64)) (fun j s => AtM s.1 90 (psN tkA f g A (mnN j (dyM A n))) ∧ ∀ c k, c ≠ 90 ∧ c ≠ 95 ∧ c ≠ 97 ∧ (c ≠ 89 ∨ k ≠ 24) → s.1 c k = I2 c k) (fun j s => fun Q => Rn sc (d + 8) 263 42 [some (.ref 89), some (.int (nI n)), some (.int l2), some (.int l3), some (.int (nI j)), none] [] (K0, s.1, s.2, R1 T) Q) n (by
    rintro j ⟨I3, J3⟩ hj ⟨t3, f3⟩
    have a1 : ¬ n ≤ j := by omega
    have hmj : A 8 + mnN j (dyM A n) ≤ 9999 := by
      unfold mnN
      split <;> omega
    obtain ⟨wj, ej, kj⟩ := psN_inv (f := f) tlK_0 hg wA (mnN j (dyM A n)) hmj
    have e8 : I3 90 8 = nI (A 8 + mnN j (dyM A n)) := by rw [← ej]; exact t3 8 (by decide)
    by_cases c : j < dyM A n
    · have em : mnN j (dyM A n) = j := if_pos (by omega)
      have em1 : mnN (j + 1) (dyM A n) = j + 1 := if_pos (by omega)
      rw [em] at wj ej kj e8 t3
      have a2 : ¬ 9999 ≤ A 8 + j := by omega
      have hl : FlM I3 tkA := Or.inr ⟨(f3 _ _ (by omega)).trans z2, rfl⟩
      obtain ⟨I4, J4, f4, r4, t4, q4⟩ := sp_passM (sc := sc) (d := d) (J := J3) (T := T) hF hM hg hl wj t3 ((txI_c (fun c k hc => (f3 c k (by omega)).trans (g2 c k (by omega)))).trans eM) (kj 3 (by omega))
      refine ⟨(I4, J4), ⟨by rw [em1]; exact t4, fun c k hc => (f4 c k hc).trans (f3 c k hc)⟩, funext fun Q => ?_⟩
      show Rn _ _ _ _ _ _ _ _ = Rn _ _ _ _ _ _ _ _
      rw [x263_42]
      simp (disch := first | assumption | omega | decide) only [x263_0, x263_1, x263_2, x263_3, x263_4, x263_5, x263_6, x263_7, x263_8, x263_9, x263_10, x263_11, x263_12, x263_13, x263_14, x263_15, x263_16, x263_17, x263_18, x263_19, x263_20, x263_21, x263_22, x263_23, x263_25, x263_26, x263_27, x263_28, x263_29, x263_30, x263_31, x263_32, x263_33, x263_34, x263_35, x263_36, x263_37, x263_38, x263_39, x263_40, x263_41, x263_43, x263_44, x263_45, x263_46, x263_47, x263_48, x263_49, x263_50, x263_51, x263_52, x263_53, x263_54, x263_55, x263_56, x263_57, x263_58, x263_59, x263_60, x263_61, x263_62, x263_63, x263_64, x263_65, x263_66, x263_67, x263_68, x263_69, x263_70, x263_71, x263_72, x263_74, x263_75, x263_76, x263_77, x263_78, x263_79, x263_80, x263_81, x263_82, x263_83, x263_84, x263_85, x263_86, x263_87, x263_88, x263_89, x263_90, ↓reduceIte, Option.toList, List.nil_append, List.cons_append, nI_add, pk_mul, n_and, n_or, n_xor, nI_leI, nI_ltI, nI_eq, n_z, uI_s, uI_n, bI_n0, bI_n1, bT, bF, if_true, if_false, not_true, not_false_eq_true, pk_div, pk_rem, Nat.reduceEqDiff, Nat.reduceLeDiff, Nat.reduceLT, Nat.reduceAdd, Nat.reduceMul, Nat.reduceSub, Nat.not_lt_zero, Nat.zero_le, reduceCtorEq, ite_self, n_rem, and_self, and_true, true_and, and_false, false_and, a1, e8, a2, q4]
    · have em : mnN j (dyM A n) = dyM A n := by unfold mnN; split <;> omega
      have em1 : mnN (j + 1) (dyM A n) = dyM A n := by unfold mnN; split <;> omega
      have ed : dyM A n = 9999 - A 8 := by
        unfold dyM at c ⊢
        split at c
        · omega
        · rw [if_neg (by assumption)]
      have a2 : 9999 ≤ A 8 + mnN j (dyM A n) := by omega
      refine ⟨(I3, J3), ⟨by rw [em1, ← em]; exact t3, f3⟩, funext fun Q => ?_⟩
      show Rn _ _ _ _ _ _ _ _ = Rn _ _ _ _ _ _ _ _
      rw [x263_42]
      simp (disch := first | assumption | omega | decide) only [x263_0, x263_1, x263_2, x263_3, x263_4, x263_5, x263_6, x263_7, x263_8, x263_9, x263_10, x263_11, x263_12, x263_13, x263_14, x263_15, x263_16, x263_17, x263_18, x263_19, x263_20, x263_21, x263_22, x263_23, x263_25, x263_26, x263_27, x263_28, x263_29, x263_30, x263_31, x263_32, x263_33, x263_34, x263_35, x263_36, x263_37, x263_38, x263_39, x263_40, x263_41, x263_43, x263_44, x263_45, x263_46, x263_47, x263_48, x263_49, x263_50, x263_51, x263_52, x263_53, x263_54, x263_55, x263_56, x263_57, x263_58, x263_59, x263_60, x263_61, x263_62, x263_63, x263_64, x263_65, x263_66, x263_67, x263_68, x263_69, x263_70, x263_71, x263_72, x263_74, x263_75, x263_76, x263_77, x263_78, x263_79, x263_80, x263_81, x263_82, x263_83, x263_84, x263_85, x263_86, x263_87, x263_88, x263_89, x263_90, ↓reduceIte, Option.toList, List.nil_append, List.cons_append, nI_add, pk_mul, n_and, n_or, n_xor, nI_leI, nI_ltI, nI_eq, n_z, uI_s, uI_n, bI_n0, bI_n1, bT, bF, if_true, if_false, not_true, not_false_eq_true, pk_div, pk_rem, Nat.reduceEqDiff, Nat.reduceLeDiff, Nat.reduceLT, Nat.reduceAdd, Nat.reduceMul, Nat.reduceSub, Nat.not_lt_zero, Nat.zero_le, reduceCtorEq, ite_self, n_rem, and_self, and_true, true_and, and_false, false_and, a1, e8, a2]) (I2, J) ⟨by rw [show mnN 0 (dyM A n) = 0 from if_pos (Nat.zero_le _)]; exact m2, fun _ _ _ => rfl⟩
  have em : mnN n (dyM A n) = dyM A n := by unfold mnN; split <;> omega
  rw [em] at h1
  refine ⟨I', J', h1, fun k k1 k2 => (h2 98 k (by omega)).trans ((g98 k).trans (b1 k k1 (by omega))), fun c k hc => (h2 c k (by omega)).trans (g2 c k (by omega)), fun Q => ?_⟩
  rw [← congrFun h3 Q]
  have b3' := congrFun b3 Q
  rw [eI]
  simp (disch := first | assumption | omega | decide) only [x263_22, x263_23, ↓reduceIte, Option.toList, List.nil_append, List.cons_append, nI_add, pk_mul, n_and, n_or, n_xor, nI_leI, nI_ltI, nI_eq, n_z, uI_s, uI_n, bI_n0, bI_n1, bT, bF, if_true, if_false, not_true, not_false_eq_true, pk_div, pk_rem, Nat.reduceEqDiff, Nat.reduceLeDiff, Nat.reduceLT, Nat.reduceAdd, Nat.reduceMul, Nat.reduceSub, Nat.not_lt_zero, Nat.zero_le, reduceCtorEq, ite_self, n_rem, and_self, and_true, true_and, and_false, false_and]
  refine Eq.trans b3' ?_
  show Rn _ _ _ _ _ _ _ _ = _
  rw [x263_24]
  simp (disch := first | assumption | omega | decide) only [x263_25, x263_26, x263_27, x263_28, x263_29, x263_30, x263_31, x263_32, x263_33, x263_34, x263_35, x263_36, x263_37, x263_38, x263_39, x263_40, x263_41, ↓reduceIte, Option.toList, List.nil_append, List.cons_append, nI_add, pk_mul, n_and, n_or, n_xor, nI_leI, nI_ltI, nI_eq, n_z, uI_s, uI_n, bI_n0, bI_n1, bT, bF, if_true, if_false, not_true, not_false_eq_true, pk_div, pk_rem, Nat.reduceEqDiff, Nat.reduceLeDiff, Nat.reduceLT, Nat.reduceAdd, Nat.reduceMul, Nat.reduceSub, Nat.not_lt_zero, Nat.zero_le, reduceCtorEq, ite_self, n_rem, and_self, and_true, true_and, and_false, false_and]
theorem fo_E {I : Nat → Nat → Int32} {J : Nat → Nat → Int64} {A B A1 : Nat → Nat} {n : Nat} {l2 l3 : Int32} {v : Int32} (h1 : AtM I 90 A1) (hA : ∀ k, (k < 8 ∨ 32 ≤ k) → k < 1799 → A1 k = A k) (hB : AtM I 91 B) (h98 : ∀ k, 8 ≤ k → k < 32 → I 98 k = nI (A k)) : ∃ I', MI I' A B ∧ (∀ c k, c ≠ 90 ∧ (c ≠ 89 ∨ k ≠ 23) → I' c k = I c k) ∧ ∀ Q, Rn sc d 263 71 [some (.ref 89), some (.int (nI n)), some (.int l2), some (.int l3), some (.int v), none] [] (K0, I, J, R1 T) Q = Q (some (.int v)) (K0, I', J, R1 T) := by
  obtain ⟨I1, ⟨b1, b2⟩, b3⟩ := iterE (fun j I' => (∀ k, k < 1799 → I' 90 k = nI (if k < 8 + j then A k else A1 k)) ∧ ∀ c k, c ≠ 90 → I' c k = I c k) (fun j I' => fun Q => Rn sc d 263 73 [some (.ref 89), some (.int (nI n)), some (.int l2), some (.int l3), some (.int v), some (.int (nI (8 + j)))] [] (K0, I', J, R1 T) Q) 24 (by
    rintro j I2 hj ⟨k2, f2⟩
    have e0 : I2 98 (8 + j) = nI (A (8 + j)) := (f2 _ _ (by omega)).trans (h98 _ (by omega) (by omega))
    have a1 : ¬ 32 ≤ 8 + j := by omega
    refine ⟨uI I2 90 (8 + j) (nI (A (8 + j))), ⟨fun k h1 => ?_, fun c k hc => (uI_n (by omega)).trans (f2 c k hc)⟩, funext fun Q => ?_⟩
    · by_cases hk : k = 8 + j
      · rw [hk, uI_s, if_pos (by omega)]
      · rw [uI_n (by omega), k2 k h1]
        by_cases hk2 : k < 8 + j
        · rw [if_pos hk2, if_pos (by omega)]
        · rw [if_neg hk2, if_neg (by omega)]
    · show Rn _ _ _ _ _ _ _ _ = Rn _ _ _ _ _ _ _ _
      rw [x263_73]
      simp (disch := first | assumption | omega | decide) only [x263_0, x263_1, x263_2, x263_3, x263_4, x263_5, x263_6, x263_7, x263_8, x263_9, x263_10, x263_11, x263_12, x263_13, x263_14, x263_15, x263_16, x263_17, x263_18, x263_19, x263_20, x263_21, x263_22, x263_23, x263_25, x263_26, x263_27, x263_28, x263_29, x263_30, x263_31, x263_32, x263_33, x263_34, x263_35, x263_36, x263_37, x263_38, x263_39, x263_40, x263_41, x263_43, x263_44, x263_45, x263_46, x263_47, x263_48, x263_49, x263_50, x263_51, x263_52, x263_53, x263_54, x263_55, x263_56, x263_57, x263_58, x263_59, x263_60, x263_61, x263_62, x263_63, x263_64, x263_65, x263_66, x263_67, x263_68, x263_69, x263_70, x263_71, x263_72, x263_74, x263_75, x263_76, x263_77, x263_78, x263_79, x263_80, x263_81, x263_82, x263_83, x263_84, x263_85, x263_86, x263_87, x263_88, x263_89, x263_90, ↓reduceIte, Option.toList, List.nil_append, List.cons_append, nI_add, pk_mul, n_and, n_or, n_xor, nI_leI, nI_ltI, nI_eq, n_z, uI_s, uI_n, bI_n0, bI_n1, bT, bF, if_true, if_false, not_true, not_false_eq_true, pk_div, pk_rem, Nat.reduceEqDiff, Nat.reduceLeDiff, Nat.reduceLT, Nat.reduceAdd, Nat.reduceMul, Nat.reduceSub, Nat.not_lt_zero, Nat.zero_le, reduceCtorEq, ite_self, n_rem, and_self, and_true, true_and, and_false, false_and, a1, e0, Nat.add_assoc]) I ⟨fun k hk => by
        rw [h1 k hk]
        by_cases hk2 : k < 8 + 0
        · rw [if_pos hk2, hA k (by omega) hk]
        · rw [if_neg hk2], fun _ _ _ => rfl⟩
  refine ⟨uI I1 89 23 (nI 1), ⟨fun k hk => ?_, fun k hk => ?_, uI_s⟩, fun c k hc => (uI_n (by omega)).trans (b2 c k (by omega)), fun Q => ?_⟩
  · rw [uI_n (by omega), b1 k hk]
    by_cases hk2 : k < 8 + 24
    · rw [if_pos hk2]
    · rw [if_neg hk2, hA k (by omega) hk]
  · rw [uI_n (by omega), b2 _ _ (by omega)]
    exact hB k hk
  · have b3' := congrFun b3 Q
    simp (disch := first | assumption | omega | decide) only [x263_71, x263_72, ↓reduceIte, Option.toList, List.nil_append, List.cons_append, nI_add, pk_mul, n_and, n_or, n_xor, nI_leI, nI_ltI, nI_eq, n_z, uI_s, uI_n, bI_n0, bI_n1, bT, bF, if_true, if_false, not_true, not_false_eq_true, pk_div, pk_rem, Nat.reduceEqDiff, Nat.reduceLeDiff, Nat.reduceLT, Nat.reduceAdd, Nat.reduceMul, Nat.reduceSub, Nat.not_lt_zero, Nat.zero_le, reduceCtorEq, ite_self, n_rem, and_self, and_true, true_and, and_false, false_and]
    refine Eq.trans b3' ?_
    show Rn _ _ _ _ _ _ _ _ = _
    rw [x263_73]
    simp (disch := first | assumption | omega | decide) only [x263_74, x263_75, x263_76, x263_77, x263_78, x263_79, x263_80, x263_81, x263_82, x263_83, x263_84, x263_85, x263_86, x263_87, x263_88, x263_89, x263_90, ↓reduceIte, Option.toList, List.nil_append, List.cons_append, nI_add, pk_mul, n_and, n_or, n_xor, nI_leI, nI_ltI, nI_eq, n_z, uI_s, uI_n, bI_n0, bI_n1, bT, bF, if_true, if_false, not_true, not_false_eq_true, pk_div, pk_rem, Nat.reduceEqDiff, Nat.reduceLeDiff, Nat.reduceLT, Nat.reduceAdd, Nat.reduceMul, Nat.reduceSub, Nat.not_lt_zero, Nat.zero_le, reduceCtorEq, ite_self, n_rem, and_self, and_true, true_and, and_false, false_and]
end Fore
