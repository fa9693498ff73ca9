/-! guests into houses: the class's table -/
def wvF (g l : Nat → Nat) (U h S p : Nat) (P : Nat) : Nat := if P &&& S = P ∧ p < P ∧ szG g P ≤ l h then prU U h + nN g l U h (S - P) else 100
def wv (g l : Nat → Nat) (U h S p : Nat) : Nat := mnG (wvF g l U h S p) (nN g l U h S) 256
theorem wv_le {g l : Nat → Nat} {U h S p : Nat} : wv g l U h S p ≤ 100 := (mnG_le 256).mpr (Or.inl (nN_le h S))
theorem wv_0 {g l : Nat → Nat} {U h S : Nat} : wv g l U h S 0 = nN g l U (h + 1) S := mnG_c 256 (fun P _ => by
  unfold wvF
  by_cases c : P &&& S = P ∧ 0 < P ∧ szG g P ≤ l h
  · rw [if_pos c, if_pos ⟨c.1, by omega, c.2.2⟩]
  · rw [if_neg c, if_neg (fun q => c ⟨q.1, by omega, q.2.2⟩)])
theorem wv_S {g l : Nat → Nat} {U h S : Nat} : wv g l U h S S = nN g l U h S := le_ext (fun v => by
  have l1 := nN_le (g := g) (l := l) (U := U) h S
  unfold wv
  rw [mnG_le]
  constructor
  · rintro (q | ⟨P, hP, q⟩)
    · exact q
    · unfold wvF at q
      split at q
      · next c =>
        have := and_l c.1
        omega
      · omega
  · exact Or.inl)
theorem wv_s {g l : Nat → Nat} {U h S p : Nat} (hS : S < 256) (hp : p &&& S = p) (h0 : 0 < p) : wv g l U h S ((p - 1) &&& S) = if szG g p ≤ l h then (if prU U h + nN g l U h (S - p) < wv g l U h S p then prU U h + nN g l U h (S - p) else wv g l U h S p) else wv g l U h S p := by
  have lq : (p - 1) &&& S ≤ p - 1 := Nat.and_le_left
  have lp := and_l hp
  have l100 := wv_le (g := g) (l := l) (U := U) (h := h) (S := S) (p := p)
  have l101 := nN_le (g := g) (l := l) (U := U) h S
  have w1 := fun v => mnG_le (f := wvF g l U h S p) (a := nN g l U h S) (v := v) 256
  apply le_ext
  intro v
  have a1 : wv g l U h S ((p - 1) &&& S) ≤ v ↔ wv g l U h S p ≤ v ∨ (szG g p ≤ l h ∧ prU U h + nN g l U h (S - p) ≤ v) := by
    have e0 : wv g l U h S p ≤ v ↔ _ := w1 v
    rw [e0]
    show mnG _ _ _ ≤ v ↔ _
    rw [mnG_le]
    constructor
    · rintro (q | ⟨P, hP, q⟩)
      · exact Or.inl (Or.inl q)
      · unfold wvF at q
        by_cases c : P &&& S = P ∧ (p - 1) &&& S < P ∧ szG g P ≤ l h
        · rw [if_pos c] at q
          by_cases e : P = p
          · subst e
            exact Or.inr ⟨c.2.2, q⟩
          · have : ¬ P < p := fun hlt => by
              have := sub_nx p S P hp c.1 hlt
              omega
            refine Or.inl (Or.inr ⟨P, hP, ?_⟩)
            unfold wvF
            rw [if_pos ⟨c.1, by omega, c.2.2⟩]
            exact q
        · rw [if_neg c] at q
          exact Or.inl (Or.inl (by omega))
    · rintro ((q | ⟨P, hP, q⟩) | ⟨q1, q2⟩)
      · exact Or.inl q
      · unfold wvF at q
        by_cases c : P &&& S = P ∧ p < P ∧ szG g P ≤ l h
        · rw [if_pos c] at q
          refine Or.inr ⟨P, hP, ?_⟩
          unfold wvF
          rw [if_pos ⟨c.1, by omega, c.2.2⟩]
          exact q
        · rw [if_neg c] at q
          exact Or.inl (by omega)
      · refine Or.inr ⟨p, by omega, ?_⟩
        unfold wvF
        rw [if_pos ⟨hp, by omega, q1⟩]
        exact q2
  rw [a1]
  by_cases c : szG g p ≤ l h
  · rw [if_pos c]
    split
    · constructor
      · rintro (q | ⟨-, q⟩) <;> omega
      · exact fun q => Or.inr ⟨c, q⟩
    · constructor
      · rintro (q | ⟨-, q⟩) <;> omega
      · exact Or.inl
  · rw [if_neg c]
    exact ⟨fun q => q.elim id (fun q => absurd q.1 c), Or.inl⟩
def LgI (I : Nat → Nat → Int32) (g : Nat → Nat) (n : Nat) : Prop := I 32 4 = nI n ∧ (∀ j, j < n → I 35 j = nI (g j)) ∧ ∀ x, x < 2 ^ n → I 86 x = nI (szG g x)
def LfI (I : Nat → Nat → Int32) (l : Nat → Nat) (U : Nat) : Prop := (∀ h, h < 8 → I 85 h = nI (l h)) ∧ I 84 5 = nI U
theorem lg_c {I I' : Nat → Nat → Int32} {g : Nat → Nat} {n : Nat} (h : LgI I g n) (e : ∀ c k, c = 32 ∨ c = 35 ∨ c = 86 → I' c k = I c k) : LgI I' g n := ⟨(e _ _ (by omega)).trans h.1, fun j hj => (e _ _ (by omega)).trans (h.2.1 j hj), fun x hx => (e _ _ (by omega)).trans (h.2.2 x hx)⟩
theorem lf_c {I I' : Nat → Nat → Int32} {l : Nat → Nat} {U : Nat} (h : LfI I l U) (e : ∀ c k, c = 84 ∨ c = 85 → I' c k = I c k) : LfI I' l U := ⟨fun k hk => (e _ _ (by omega)).trans (h.1 k hk), (e _ _ (by omega)).trans h.2⟩
theorem p7 {n : Nat} (h : n ≤ 7) : 2 ^ n ≤ 128 := Nat.pow_le_pow_right (n := 2) (by decide) h
theorem bt_n {x n j : Nat} (hx : x < 2 ^ n) (h : x.testBit j = true) : j < n := by
  apply Classical.byContradiction
  intro hc
  have := Nat.testBit_lt_two_pow (Nat.lt_of_lt_of_le hx (Nat.pow_le_pow_right (show 0 < 2 by decide) (show n ≤ j by omega)))
  rw [h] at this
  cases this
theorem sz_le {g : Nat → Nat} {x n : Nat} (hx : x < 2 ^ n) (hg : ∀ j, j < n → g j ≤ 4) : szG g x ≤ 28 := Nat.le_trans (sm_le (G := fun _ => 4) 7 (fun j _ => by
  by_cases c : x.testBit j = true
  · rw [if_pos c]
    exact hg j (bt_n hx c)
  · rw [if_neg c]
    omega)) (by decide)
theorem pr_le {U h : Nat} : prU U h ≤ 1 := by
  unfold prU
  split <;> omega
section Lodge
variable {sc : Sc} {d : Nat} {J : Nat → Nat → Int64} {T : Option Nat} {g l : Nat → Nat} {U n : Nat}
theorem sp_with {I : Nat → Nat → Int32} {h S : Nat} (n7 : n ≤ 7) (hg : ∀ j, j < n → g j ≤ 4) (hl : ∀ h, h < 8 → l h ≤ 4) (hU : U < 256) (hh : h < 8) (hS : S < 2 ^ n) (L : LgI I g n) (F : LfI I l U) (k : ∀ x, x &&& S = x → I 87 x = nI (nN g l U h x)) : ∀ Q, Rn sc d 24 0 [some (.ref 84), some (.int (nI h)), some (.int (nI S)), none, none, none] [] (K0, I, J, R1 T) Q = Q (some (.int (nI (nN g l U (h + 1) S)))) (K0, I, J, R1 T) := by
  intro Q
  have l7 := p7 n7
  have lh := hl h hh
  have pr1 := pr_le (U := U) (h := h)
  have loop : ∀ p, p &&& S = p → Rn sc d 24 19 [some (.ref 84), some (.int (nI h)), some (.int (nI S)), some (.int (nI (wv g l U h S p))), some (.int (nI (prU U h))), some (.int (nI p))] [] (K0, I, J, R1 T) Q = Q (some (.int (nI (nN g l U (h + 1) S)))) (K0, I, J, R1 T) := by
    intro p
    induction p using Nat.strongRecOn with
    | _ p ih =>
      intro hp
      have lp := and_l hp
      by_cases c : p = 0
      · subst c
        rw [wv_0, x24_19]
        simp (disch := first | assumption | omega | decide) only [x24_20, x24_48, x24_49, ↓reduceIte, Option.toList, List.nil_append, List.cons_append, nI_add, pk_mul, n_and, n_or, n_xor, nI_leI, nI_ltI, nI_eq, n_z, uI_s, uI_n, bI_n0, bI_n1, bT, bF, if_true, if_false, not_true, not_false_eq_true, pk_div, pk_rem, Nat.reduceEqDiff, Nat.reduceLeDiff, Nat.reduceLT, Nat.reduceAdd, Nat.reduceMul, Nat.reduceSub, Nat.not_lt_zero, Nat.zero_le, reduceCtorEq, ite_self, n_rem, and_self, and_true, true_and, and_false, false_and, Nat.le_refl]
      · have c' : ¬ p ≤ 0 := by omega
        have l1 : (p - 1) &&& S ≤ p - 1 := Nat.and_le_left
        have hq : ((p - 1) &&& S) &&& S = (p - 1) &&& S := by rw [Nat.and_assoc, Nat.and_self]
        have nx := ih ((p - 1) &&& S) (by omega) hq
        have ls := sz_le (x := p) (n := n) (g := g) (by omega) hg
        have lw := wv_le (g := g) (l := l) (U := U) (h := h) (S := S) (p := p)
        have ln := nN_le (g := g) (l := l) (U := U) h (S - p)
        have e1 := k (S - p) (sub_i.mpr (fun i hi => by
          rw [sbt8 (by omega) hp i, Bool.and_eq_true] at hi
          exact hi.1))
        have e2 := L.2.2 p (by omega)
        have e3 := F.1 h hh
        rw [wv_s (by omega) hp (by omega)] at nx
        rw [← nx, x24_19]
        by_cases c1 : szG g p ≤ l h
        · have c2 : ¬ l h < szG g p := by omega
          rw [if_pos c1]
          by_cases c3 : prU U h + nN g l U h (S - p) < wv g l U h S p
          · rw [if_pos c3]
            simp (disch := first | assumption | omega | decide) only [x24_20, x24_21, x24_22, x24_23, x24_24, x24_25, x24_26, x24_27, x24_28, x24_29, x24_30, x24_31, x24_32, x24_33, x24_34, x24_35, x24_36, x24_37, x24_38, x24_39, x24_40, x24_41, x24_42, x24_43, x24_44, x24_45, x24_46, x24_47, ↓reduceIte, Option.toList, List.nil_append, List.cons_append, nI_add, pk_mul, n_and, n_or, n_xor, nI_leI, nI_ltI, nI_eq, n_z, uI_s, uI_n, bI_n0, bI_n1, bT, bF, if_true, if_false, not_true, not_false_eq_true, pk_div, pk_rem, Nat.reduceEqDiff, Nat.reduceLeDiff, Nat.reduceLT, Nat.reduceAdd, Nat.reduceMul, Nat.reduceSub, Nat.not_lt_zero, Nat.zero_le, reduceCtorEq, ite_self, n_rem, and_self, and_true, true_and, and_false, false_and, c', e2, e3, c2, n_sub (show p ≤ S by omega), e1, c3, n_sub (show 1 ≤ p by omega)]
          · rw [if_neg c3]
            simp (disch := first | assumption | omega | decide) only [x24_20, x24_21, x24_22, x24_23, x24_24, x24_25, x24_26, x24_27, x24_28, x24_29, x24_30, x24_31, x24_32, x24_33, x24_34, x24_35, x24_36, x24_37, x24_38, x24_39, x24_40, x24_41, x24_42, x24_43, x24_44, x24_45, x24_46, x24_47, ↓reduceIte, Option.toList, List.nil_append, List.cons_append, nI_add, pk_mul, n_and, n_or, n_xor, nI_leI, nI_ltI, nI_eq, n_z, uI_s, uI_n, bI_n0, bI_n1, bT, bF, if_true, if_false, not_true, not_false_eq_true, pk_div, pk_rem, Nat.reduceEqDiff, Nat.reduceLeDiff, Nat.reduceLT, Nat.reduceAdd, Nat.reduceMul, Nat.reduceSub, Nat.not_lt_zero, Nat.zero_le, reduceCtorEq, ite_self, n_rem, and_self, and_true, true_and, and_false, false_and, c', e2, e3, c2, n_sub (show p ≤ S by omega), e1, c3, n_sub (show 1 ≤ p by omega)]
        · have c2 : l h < szG g p := by omega
          rw [if_neg c1]
          simp (disch := first | assumption | omega | decide) only [x24_20, x24_21, x24_22, x24_23, x24_24, x24_25, x24_26, x24_27, x24_28, x24_29, x24_30, x24_31, x24_32, x24_33, x24_34, x24_35, x24_36, x24_37, x24_38, x24_39, x24_40, x24_41, x24_42, x24_43, x24_44, x24_45, x24_46, x24_47, ↓reduceIte, Option.toList, List.nil_append, List.cons_append, nI_add, pk_mul, n_and, n_or, n_xor, nI_leI, nI_ltI, nI_eq, n_z, uI_s, uI_n, bI_n0, bI_n1, bT, bF, if_true, if_false, not_true, not_false_eq_true, pk_div, pk_rem, Nat.reduceEqDiff, Nat.reduceLeDiff, Nat.reduceLT, Nat.reduceAdd, Nat.reduceMul, Nat.reduceSub, Nat.not_lt_zero, Nat.zero_le, reduceCtorEq, ite_self, n_rem, and_self, and_true, true_and, and_false, false_and, c', e2, e3, c2, n_sub (show 1 ≤ p by omega)]
  have l0 := loop S (Nat.and_self S)
  rw [wv_S] at l0
  have e0 := k S (Nat.and_self S)
  have e4 := F.2
  by_cases c : U / 2 ^ h % 2 = 1
  · have e5 : prU U h = 0 := if_pos (tb_iff.mp c)
    rw [e5] at l0
    simp (disch := first | assumption | omega | decide) only [x24_0, x24_1, x24_2, x24_3, x24_4, x24_5, x24_6, x24_7, x24_8, x24_9, x24_10, x24_11, x24_12, x24_13, x24_14, x24_15, x24_16, x24_17, x24_18, ↓reduceIte, Option.toList, List.nil_append, List.cons_append, nI_add, pk_mul, n_and, n_or, n_xor, nI_leI, nI_ltI, nI_eq, n_z, uI_s, uI_n, bI_n0, bI_n1, bT, bF, if_true, if_false, not_true, not_false_eq_true, pk_div, pk_rem, Nat.reduceEqDiff, Nat.reduceLeDiff, Nat.reduceLT, Nat.reduceAdd, Nat.reduceMul, Nat.reduceSub, Nat.not_lt_zero, Nat.zero_le, reduceCtorEq, ite_self, n_rem, and_self, and_true, true_and, and_false, false_and, e0, e4, n_bit, c]
    exact l0
  · have e5 : prU U h = 1 := if_neg (fun q => c (tb_iff.mpr q))
    rw [e5] at l0
    simp (disch := first | assumption | omega | decide) only [x24_0, x24_1, x24_2, x24_3, x24_4, x24_5, x24_6, x24_7, x24_8, x24_9, x24_10, x24_11, x24_12, x24_13, x24_14, x24_15, x24_16, x24_17, x24_18, ↓reduceIte, Option.toList, List.nil_append, List.cons_append, nI_add, pk_mul, n_and, n_or, n_xor, nI_leI, nI_ltI, nI_eq, n_z, uI_s, uI_n, bI_n0, bI_n1, bT, bF, if_true, if_false, not_true, not_false_eq_true, pk_div, pk_rem, Nat.reduceEqDiff, Nat.reduceLeDiff, Nat.reduceLT, Nat.reduceAdd, Nat.reduceMul, Nat.reduceSub, Nat.not_lt_zero, Nat.zero_le, reduceCtorEq, ite_self, n_rem, and_self, and_true, true_and, and_false, false_and, e0, e4, n_bit, c]
    exact l0
theorem sp_few1 {S : Nat} (n7 : n ≤ 7) (hS : S < 2 ^ n) (u3 : Option Value) : ∀ p, p &&& S = p → ∀ I : Nat → Nat → Int32, (∀ x, x &&& S = x → p < x → I 87 x = nI 100) → ∃ I', (∀ c k, c ≠ 87 → I' c k = I c k) ∧ (∀ x, x &&& S = x → I' 87 x = nI (nN g l U 0 x)) ∧ ∀ Q, Rn sc d 23 2 [some (.ref 84), some (.int (nI S)), some (.int (nI p)), u3] [] (K0, I, J, R1 T) Q = Rn sc d 23 23 [some (.ref 84), some (.int (nI S)), some (.int (nI 0)), u3] [] (K0, I', J, R1 T) Q := by
  intro p
  have l7 := p7 n7
  induction p using Nat.strongRecOn with
  | _ p ih =>
    intro hp I hI
    have lp := and_l hp
    by_cases c : p = 0
    · subst c
      refine ⟨uI I 87 0 (nI 0), fun c k hc => uI_n (by omega), fun x hx => ?_, fun Q => ?_⟩
      · rw [nN]
        by_cases e : x = 0
        · rw [if_pos e, e, uI_s]
        · rw [if_neg e, uI_n (by omega)]
          exact hI x hx (by omega)
      · rw [x23_2]
        simp (disch := first | assumption | omega | decide) only [x23_3, x23_16, x23_17, x23_18, x23_19, x23_20, x23_21, x23_22, ↓reduceIte, Option.toList, List.nil_append, List.cons_append, nI_add, pk_mul, n_and, n_or, n_xor, nI_leI, nI_ltI, nI_eq, n_z, uI_s, uI_n, bI_n0, bI_n1, bT, bF, if_true, if_false, not_true, not_false_eq_true, pk_div, pk_rem, Nat.reduceEqDiff, Nat.reduceLeDiff, Nat.reduceLT, Nat.reduceAdd, Nat.reduceMul, Nat.reduceSub, Nat.not_lt_zero, Nat.zero_le, reduceCtorEq, ite_self, n_rem, and_self, and_true, true_and, and_false, false_and, Nat.le_refl]
    · have c' : ¬ p ≤ 0 := by omega
      have l1 : (p - 1) &&& S ≤ p - 1 := Nat.and_le_left
      have hq : ((p - 1) &&& S) &&& S = (p - 1) &&& S := by rw [Nat.and_assoc, Nat.and_self]
      obtain ⟨I1, f1, k1, q1⟩ := ih ((p - 1) &&& S) (by omega) hq (uI I 87 p (nI 100)) (fun x hx hlt => by
        by_cases e : x = p
        · rw [e, uI_s]
        · have : ¬ x < p := fun hl => by
            have := sub_nx p S x hp hx hl
            omega
          rw [uI_n (by omega)]
          exact hI x hx (by omega))
      refine ⟨I1, fun c k hc => (f1 c k hc).trans (uI_n (by omega)), k1, fun Q => ?_⟩
      rw [← q1 Q, x23_2]
      simp (disch := first | assumption | omega | decide) only [x23_3, x23_4, x23_5, x23_6, x23_7, x23_8, x23_9, x23_10, x23_11, x23_12, x23_13, x23_14, x23_15, ↓reduceIte, Option.toList, List.nil_append, List.cons_append, nI_add, pk_mul, n_and, n_or, n_xor, nI_leI, nI_ltI, nI_eq, n_z, uI_s, uI_n, bI_n0, bI_n1, bT, bF, if_true, if_false, not_true, not_false_eq_true, pk_div, pk_rem, Nat.reduceEqDiff, Nat.reduceLeDiff, Nat.reduceLT, Nat.reduceAdd, Nat.reduceMul, Nat.reduceSub, Nat.not_lt_zero, Nat.zero_le, reduceCtorEq, ite_self, n_rem, and_self, and_true, true_and, and_false, false_and, c', n_sub (show 1 ≤ p by omega)]
theorem sp_few2 {h S : Nat} (n7 : n ≤ 7) (hg : ∀ j, j < n → g j ≤ 4) (hl : ∀ h, h < 8 → l h ≤ 4) (hU : U < 256) (hh : h < 8) (hS : S < 2 ^ n) : ∀ p, p &&& S = p → ∀ I : Nat → Nat → Int32, LgI I g n → LfI I l U → (∀ x, x &&& S = x → I 87 x = nI (if p < x then nN g l U (h + 1) x else nN g l U h x)) → ∃ I', (∀ c k, c ≠ 87 → I' c k = I c k) ∧ (∀ x, x &&& S = x → I' 87 x = nI (nN g l U (h + 1) x)) ∧ ∀ Q, Rn sc (d + 1) 23 28 [some (.ref 84), some (.int (nI S)), some (.int (nI h)), some (.int (nI p))] [] (K0, I, J, R1 T) Q = Rn sc (d + 1) 23 23 [some (.ref 84), some (.int (nI S)), some (.int (nI (h + 1))), some (.int (nI 0))] [] (K0, I', J, R1 T) Q := by
  intro p
  have l7 := p7 n7
  induction p using Nat.strongRecOn with
  | _ p ih =>
    intro hp I L F hI
    have lp := and_l hp
    by_cases c : p = 0
    · subst c
      refine ⟨I, fun _ _ _ => rfl, fun x hx => ?_, fun Q => ?_⟩
      · rw [hI x hx]
        by_cases e : x = 0
        · rw [e, if_neg (Nat.lt_irrefl 0), nN_0, nN_0]
        · rw [if_pos (by omega)]
      · rw [x23_28]
        simp (disch := first | assumption | omega | decide) only [x23_29, x23_45, x23_46, ↓reduceIte, Option.toList, List.nil_append, List.cons_append, nI_add, pk_mul, n_and, n_or, n_xor, nI_leI, nI_ltI, nI_eq, n_z, uI_s, uI_n, bI_n0, bI_n1, bT, bF, if_true, if_false, not_true, not_false_eq_true, pk_div, pk_rem, Nat.reduceEqDiff, Nat.reduceLeDiff, Nat.reduceLT, Nat.reduceAdd, Nat.reduceMul, Nat.reduceSub, Nat.not_lt_zero, Nat.zero_le, reduceCtorEq, ite_self, n_rem, and_self, and_true, true_and, and_false, false_and, Nat.le_refl]
    · have c' : ¬ p ≤ 0 := by omega
      have l1 : (p - 1) &&& S ≤ p - 1 := Nat.and_le_left
      have hq : ((p - 1) &&& S) &&& S = (p - 1) &&& S := by rw [Nat.and_assoc, Nat.and_self]
      have sw := sp_with (sc := sc) (d := d) (J := J) (T := T) n7 hg hl hU hh (show p < 2 ^ n by omega) L F (fun x hx => by
        have hx2 : x &&& S = x := by
          rw [← hx, Nat.and_assoc, hp]
        have := and_l hx
        rw [hI x hx2, if_neg (by omega)])
      obtain ⟨I1, f1, k1, q1⟩ := ih ((p - 1) &&& S) (by omega) hq (uI I 87 p (nI (nN g l U (h + 1) p))) (lg_c L (fun c k hc => uI_n (by omega))) (lf_c F (fun c k hc => uI_n (by omega))) (fun x hx => by
        by_cases e : x = p
        · rw [e, uI_s, if_pos (by omega)]
        · rw [uI_n (by omega), hI x hx]
          by_cases e2 : x < p
          · have := sub_nx p S x hp hx e2
            rw [if_neg (by omega), if_neg (by omega)]
          · rw [if_pos (by omega), if_pos (by omega)])
      refine ⟨I1, fun c k hc => (f1 c k hc).trans (uI_n (by omega)), k1, fun Q => ?_⟩
      rw [← q1 Q, x23_28]
      simp (disch := first | assumption | omega | decide) only [x23_29, x23_30, x23_31, x23_32, x23_33, x23_34, x23_35, x23_36, x23_37, x23_38, x23_39, x23_40, x23_41, x23_42, x23_43, x23_44, ↓reduceIte, Option.toList, List.nil_append, List.cons_append, nI_add, pk_mul, n_and, n_or, n_xor, nI_leI, nI_ltI, nI_eq, n_z, uI_s, uI_n, bI_n0, bI_n1, bT, bF, if_true, if_false, not_true, not_false_eq_true, pk_div, pk_rem, Nat.reduceEqDiff, Nat.reduceLeDiff, Nat.reduceLT, Nat.reduceAdd, Nat.reduceMul, Nat.reduceSub, Nat.not_lt_zero, Nat.zero_le, reduceCtorEq, ite_self, n_rem, and_self, and_true, true_and, and_false, false_and, c', sw, n_sub (show 1 ≤ p by omega)]
theorem sp_few {I : Nat → Nat → Int32} {S : Nat} (n7 : n ≤ 7) (hg : ∀ j, j < n → g j ≤ 4) (hl : ∀ h, h < 8 → l h ≤ 4) (hU : U < 256) (hS : S < 2 ^ n) (L : LgI I g n) (F : LfI I l U) : ∃ I', (∀ c k, c ≠ 87 → I' c k = I c k) ∧ ∀ Q, Rn sc (d + 1) 23 0 [some (.ref 84), some (.int (nI S)), none, none] [] (K0, I, J, R1 T) Q = Q (some (.int (nI (pcN U + nN g l U 8 S)))) (K0, I', J, R1 T) := by
  have l7 := p7 n7
  obtain ⟨I1, f1, k1, q1⟩ := sp_few1 (sc := sc) (d := d + 1) (J := J) (T := T) (g := g) (l := l) (U := U) n7 hS none S (Nat.and_self S) I (fun x hx hlt => by
    have := and_l hx
    omega)
  obtain ⟨⟨I2, u2⟩, ⟨f2, k2⟩, h2⟩ := iterE (St := (Nat → Nat → Int32) × Option Value) (fun h s => (∀ c k, c ≠ 87 → s.1 c k = I c k) ∧ ∀ x, x &&& S = x → s.1 87 x = nI (nN g l U h x)) (fun h s => fun Q => Rn sc (d + 1) 23 23 [some (.ref 84), some (.int (nI S)), some (.int (nI h)), s.2] [] (K0, s.1, J, R1 T) Q) 8 (by
    rintro h ⟨I2, u2⟩ hh ⟨f2, k2⟩
    have lh : ¬ 8 ≤ h := by omega
    obtain ⟨I3, f3, k3, q3⟩ := sp_few2 (sc := sc) (d := d) (J := J) (T := T) n7 hg hl hU hh hS S (Nat.and_self S) I2 (lg_c L (fun c k hc => f2 c k (by omega))) (lf_c F (fun c k hc => f2 c k (by omega))) (fun x hx => by
      have := and_l hx
      rw [if_neg (by omega)]
      exact k2 x hx)
    refine ⟨(I3, some (.int (nI 0))), ⟨fun c k hc => (f3 c k hc).trans (f2 c k hc), k3⟩, funext fun Q => ?_⟩
    show Rn _ _ _ _ _ _ _ _ = Rn _ _ _ _ _ _ _ _
    rw [← q3 Q, x23_23]
    simp (disch := first | assumption | omega | decide) only [x23_24, x23_25, x23_26, x23_27, ↓reduceIte, Option.toList, List.nil_append, List.cons_append, nI_add, pk_mul, n_and, n_or, n_xor, nI_leI, nI_ltI, nI_eq, n_z, uI_s, uI_n, bI_n0, bI_n1, bT, bF, if_true, if_false, not_true, not_false_eq_true, pk_div, pk_rem, Nat.reduceEqDiff, Nat.reduceLeDiff, Nat.reduceLT, Nat.reduceAdd, Nat.reduceMul, Nat.reduceSub, Nat.not_lt_zero, Nat.zero_le, reduceCtorEq, ite_self, n_rem, and_self, and_true, true_and, and_false, false_and, lh]) (I1, none) ⟨f1, k1⟩
  refine ⟨I2, f2, fun Q => ?_⟩
  have h2' := congrFun h2 Q
  have q1' := q1 Q
  have e1 : I2 84 5 = nI U := (f2 _ _ (by decide)).trans F.2
  have e2 : I2 87 S = nI (nN g l U 8 S) := k2 S (Nat.and_self S)
  simp (disch := first | assumption | omega | decide) only [x23_0, x23_1, ↓reduceIte, Option.toList, List.nil_append, List.cons_append, nI_add, pk_mul, n_and, n_or, n_xor, nI_leI, nI_ltI, nI_eq, n_z, uI_s, uI_n, bI_n0, bI_n1, bT, bF, if_true, if_false, not_true, not_false_eq_true, pk_div, pk_rem, Nat.reduceEqDiff, Nat.reduceLeDiff, Nat.reduceLT, Nat.reduceAdd, Nat.reduceMul, Nat.reduceSub, Nat.not_lt_zero, Nat.zero_le, reduceCtorEq, ite_self, n_rem, and_self, and_true, true_and, and_false, false_and]
  rw [q1']
  refine Eq.trans h2' ?_
  show Rn _ _ _ _ _ _ _ _ = _
  rw [x23_23]
  simp (disch := first | assumption | omega | decide) only [x23_24, x23_25, x23_47, x23_48, x23_49, x23_50, x23_51, x23_52, x23_53, x23_54, x23_55, ↓reduceIte, Option.toList, List.nil_append, List.cons_append, nI_add, pk_mul, n_and, n_or, n_xor, nI_leI, nI_ltI, nI_eq, n_z, uI_s, uI_n, bI_n0, bI_n1, bT, bF, if_true, if_false, not_true, not_false_eq_true, pk_div, pk_rem, Nat.reduceEqDiff, Nat.reduceLeDiff, Nat.reduceLT, Nat.reduceAdd, Nat.reduceMul, Nat.reduceSub, Nat.not_lt_zero, Nat.zero_le, reduceCtorEq, ite_self, n_rem, and_self, and_true, true_and, and_false, false_and, Nat.le_refl, e1, sp_bitCount, e2]
theorem lw_sz : ∀ x, x < 128 → 0 < x → x = (x &&& (x - 1)) ||| 2 ^ lowN x ∧ (x &&& (x - 1)).testBit (lowN x) = false ∧ lowN x < 7 ∧ x &&& (x - 1) < x ∧ x.testBit (lowN x) = true := by decide +kernel
theorem sp_sizes {I : Nat → Nat → Int32} (n7 : n ≤ 7) (h4 : I 32 4 = nI n) (h35 : ∀ j, j < n → I 35 j = nI (g j)) (hg : ∀ j, j < n → g j ≤ 4) (h0 : I 86 0 = nI 0) : ∃ I' u1 u2, (∀ c k, c ≠ 86 → I' c k = I c k) ∧ LgI I' g n ∧ ∀ Q, Rn sc (d + 2) 22 19 [some (.ref 84), some (.int (nI 1)), none] [] (K0, I, J, R1 T) Q = Rn sc (d + 2) 22 49 [some (.ref 84), some (.int u1), u2] [] (K0, I', J, R1 T) Q := by
  have l7 := p7 n7
  have p1 := Nat.two_pow_pos n
  obtain ⟨⟨I2, u2⟩, ⟨f2, k2⟩, h2⟩ := iterE (St := (Nat → Nat → Int32) × Option Value) (fun t s => (∀ c k, c ≠ 86 → s.1 c k = I c k) ∧ ∀ x, x < 1 + t → s.1 86 x = nI (szG g x)) (fun t s => fun Q => Rn sc (d + 2) 22 19 [some (.ref 84), some (.int (nI (1 + t))), s.2] [] (K0, s.1, J, R1 T) Q) (2 ^ n - 1) (by
    rintro t ⟨I2, u2⟩ ht ⟨f2, k2⟩
    have f2 : ∀ c k, c ≠ 86 → I2 c k = I c k := f2
    have k2 : ∀ x, x < 1 + t → I2 86 x = nI (szG g x) := k2
    obtain ⟨x, ex⟩ : ∃ x, x = 1 + t := ⟨_, rfl⟩
    rw [← ex] at k2
    have lx : ¬ 2 ^ n ≤ x := by omega
    obtain ⟨w1, w2, w3, w4, w5⟩ := lw_sz x (by omega) (by omega)
    have wn := bt_n (show x < 2 ^ n by omega) w5
    have e1 : I2 32 4 = nI n := (f2 _ _ (by decide)).trans h4
    have e2 : I2 35 (lowN x) = nI (g (lowN x)) := (f2 _ _ (by decide)).trans (h35 _ wn)
    have e3 := k2 (x &&& (x - 1)) (by omega)
    have e4 : szG g (x &&& (x - 1)) + g (lowN x) = szG g x := by
      have := sz_add (g := g) w3 w2
      rw [← w1] at this
      exact this.symm
    have lw := fun Q => sp_lowestIn (sc := sc) (d := d) (I := I2) (J := J) (T := T) (Q := Q) (show x < 256 by omega) (show 0 < x by omega)
    have w6 : x &&& (x - 1) < 128 := by omega
    refine ⟨(uI I2 86 x (nI (szG g x)), some (.int (nI (lowN x)))), ⟨fun c k hc => (uI_n (by omega)).trans (f2 c k hc), fun y hy => ?_⟩, funext fun Q => ?_⟩
    · show uI _ _ _ _ _ _ = _
      by_cases e : y = x
      · rw [e, uI_s]
      · rw [uI_n (by omega)]
        exact k2 y (by omega)
    · show Rn _ _ _ _ _ _ _ _ = Rn _ _ _ _ _ _ _ _
      rw [show 1 + (t + 1) = x + 1 by omega, ← ex, x22_19]
      simp (disch := first | assumption | omega | decide) only [x22_20, x22_21, x22_22, x22_23, x22_24, x22_25, x22_26, x22_27, x22_28, x22_29, x22_30, x22_31, x22_32, x22_33, x22_34, x22_35, x22_36, x22_37, x22_38, x22_39, x22_40, x22_41, x22_42, x22_43, x22_44, x22_45, x22_46, x22_47, x22_48, ↓reduceIte, Option.toList, List.nil_append, List.cons_append, nI_add, pk_mul, n_and, n_or, n_xor, nI_leI, nI_ltI, nI_eq, n_z, uI_s, uI_n, bI_n0, bI_n1, bT, bF, if_true, if_false, not_true, not_false_eq_true, pk_div, pk_rem, Nat.reduceEqDiff, Nat.reduceLeDiff, Nat.reduceLT, Nat.reduceAdd, Nat.reduceMul, Nat.reduceSub, Nat.not_lt_zero, Nat.zero_le, reduceCtorEq, ite_self, n_rem, and_self, and_true, true_and, and_false, false_and, e1, n_one, lx, lw, n_sub (show 1 ≤ x by omega), e2, e3, e4]) (I, none) ⟨fun _ _ _ => rfl, fun x hx => by
    have : x = 0 := by omega
    rw [this, sz_0]
    exact h0⟩
  have f2 : ∀ c k, c ≠ 86 → I2 c k = I c k := f2
  have k2 : ∀ x, x < 1 + (2 ^ n - 1) → I2 86 x = nI (szG g x) := k2
  have e1 : I2 32 4 = nI n := (f2 _ _ (by decide)).trans h4
  rw [show 1 + (2 ^ n - 1) = 2 ^ n by omega] at h2 k2
  refine ⟨I2, nI (2 ^ n), u2, f2, ⟨e1, fun j hj => (f2 _ _ (by decide)).trans (h35 j hj), k2⟩, fun Q => ?_⟩
  have h2' := congrFun h2 Q
  refine Eq.trans h2' ?_
  show Rn _ _ _ _ _ _ _ _ = _
  rw [x22_19]
  simp (disch := first | assumption | omega | decide) only [x22_20, x22_21, x22_22, x22_23, x22_24, x22_25, ↓reduceIte, Option.toList, List.nil_append, List.cons_append, nI_add, pk_mul, n_and, n_or, n_xor, nI_leI, nI_ltI, nI_eq, n_z, uI_s, uI_n, bI_n0, bI_n1, bT, bF, if_true, if_false, not_true, not_false_eq_true, pk_div, pk_rem, Nat.reduceEqDiff, Nat.reduceLeDiff, Nat.reduceLT, Nat.reduceAdd, Nat.reduceMul, Nat.reduceSub, Nat.not_lt_zero, Nat.zero_le, reduceCtorEq, ite_self, n_rem, and_self, and_true, true_and, and_false, false_and, e1, n_one, Nat.le_refl]
end Lodge
