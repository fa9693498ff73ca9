/-! guests into houses: the reference; packed -/
def bP (b : Nat) : Int32 := if b < 100 then nI b else -1
def okB (b : Nat) : Prop := b ≤ 8 ∨ b = 100
theorem ld_b {g r : Nat → Nat} {h : Nat} : ∀ k, (∀ i, i < k → g i ≤ 4) → ldN g r k h ≤ 4 * k
  | 0, _ => Nat.le_refl _
  | k + 1, hg => by
    have ih := ld_b (r := r) (h := h) k (fun i hi => hg i (by omega))
    have g1 := hg k (by omega)
    show ldN g r k h + (if r k = h then g k else 0) ≤ _
    split <;> omega
theorem bP_n {b : Nat} (h : b ≤ 8) : bP b = nI b := if_pos (by omega)
theorem bP_1 : bP 100 = -1 := rfl
theorem pk_ok {g R : Nat → Nat} : ∀ m k r (s : Nat × (Nat → Int32)), okB s.1 → okB (pkA g R m k r s).1
  | 0, k, r, s, _ => Or.inl in_8
  | m + 1, k, r, s, h => by
    rw [pk_s]
    have key : ∀ j, okB (foldS (chP g R m k r) s j).1 := by
      intro j
      induction j with
      | zero => exact h
      | succ j ih =>
        rw [foldS_s]
        unfold chP
        split
        · exact pk_ok m (k + 1) (upA r k j) _ ih
        · exact ih
    exact key 8
theorem fd_ok {g R : Nat → Nat} {m k : Nat} {r : Nat → Nat} {s : Nat × (Nat → Int32)} (h : okB s.1) : ∀ j, okB (foldS (chP g R m k r) s j).1
  | 0 => h
  | j + 1 => by
    rw [foldS_s]
    have ih := fd_ok (g := g) (R := R) (m := m) (k := k) (r := r) h j
    unfold chP
    split
    · exact pk_ok m (k + 1) (upA r k j) _ ih
    · exact ih
section PackM
variable {sc : Sc} {d : Nat} {J : Nat → Nat → Int64} {T : Option Nat} {A : Nat → Nat}
theorem sp_inUse {I : Nat → Nat → Int32} {x : Nat → Nat} (hx : ∀ h, h < 8 → I 104 h = nI (x h) ∧ x h < 2 ^ 20) : ∀ Q, Rn sc d 298 0 [some (.ref 89), none, none] [] (K0, I, J, R1 T) Q = Q (some (.int (nI (sm (fun h => if 0 < x h then 1 else 0) 8)))) (K0, I, J, R1 T) := by
  intro Q
  have hi := iter0 (fun h => Rn sc d 298 4 [some (.ref 89), some (.int (nI (sm (fun h => if 0 < x h then 1 else 0) h))), some (.int (nI h))] [] (K0, I, J, R1 T) Q) 8 (by
    intro h hh
    show Rn _ _ _ _ _ _ _ _ = Rn _ _ _ _ _ _ _ _
    have lh : ¬ 8 ≤ h := by omega
    obtain ⟨e0, l0⟩ := hx h hh
    rw [x298_4, sm]
    by_cases c : 0 < x h
    · have c' : ¬ x h ≤ 0 := by omega
      rw [if_pos c]
      simp (disch := first | assumption | omega | decide) only [x298_5, x298_6, x298_7, x298_8, x298_9, x298_10, x298_11, x298_12, x298_13, x298_14, x298_15, x298_16, x298_17, x298_18, x298_19, ↓reduceIte, Option.toList, List.nil_append, List.cons_append, nI_add, pk_mul, n_and, n_or, n_xor, nI_leI, nI_ltI, nI_eq, n_z, uI_s, uI_n, bI_n0, bI_n1, bT, bF, if_true, if_false, not_true, not_false_eq_true, pk_div, pk_rem, Nat.reduceEqDiff, Nat.reduceLeDiff, Nat.reduceLT, Nat.reduceAdd, Nat.reduceMul, Nat.reduceSub, Nat.not_lt_zero, Nat.zero_le, reduceCtorEq, ite_self, n_rem, and_self, and_true, true_and, and_false, false_and, lh, e0, c']
    · have c' : x h ≤ 0 := by omega
      rw [if_neg c]
      simp (disch := first | assumption | omega | decide) only [x298_5, x298_6, x298_7, x298_8, x298_9, x298_10, x298_11, x298_12, x298_13, x298_14, x298_15, x298_16, x298_17, x298_18, x298_19, ↓reduceIte, Option.toList, List.nil_append, List.cons_append, nI_add, pk_mul, n_and, n_or, n_xor, nI_leI, nI_ltI, nI_eq, n_z, uI_s, uI_n, bI_n0, bI_n1, bT, bF, if_true, if_false, not_true, not_false_eq_true, pk_div, pk_rem, Nat.reduceEqDiff, Nat.reduceLeDiff, Nat.reduceLT, Nat.reduceAdd, Nat.reduceMul, Nat.reduceSub, Nat.not_lt_zero, Nat.zero_le, reduceCtorEq, ite_self, n_rem, and_self, and_true, true_and, and_false, false_and, lh, e0, c'])
  simp (disch := first | assumption | omega | decide) only [x298_0, x298_1, x298_2, x298_3, ↓reduceIte, Option.toList, List.nil_append, List.cons_append, nI_add, pk_mul, n_and, n_or, n_xor, nI_leI, nI_ltI, nI_eq, n_z, uI_s, uI_n, bI_n0, bI_n1, bT, bF, if_true, if_false, not_true, not_false_eq_true, pk_div, pk_rem, Nat.reduceEqDiff, Nat.reduceLeDiff, Nat.reduceLT, Nat.reduceAdd, Nat.reduceMul, Nat.reduceSub, Nat.not_lt_zero, Nat.zero_le, reduceCtorEq, ite_self, n_rem, and_self, and_true, true_and, and_false, false_and]
  refine Eq.trans hi ?_
  show Rn _ _ _ _ _ _ _ _ = _
  rw [x298_4]
  simp (disch := first | assumption | omega | decide) only [x298_5, x298_6, x298_20, x298_21, ↓reduceIte, Option.toList, List.nil_append, List.cons_append, nI_add, pk_mul, n_and, n_or, n_xor, nI_leI, nI_ltI, nI_eq, n_z, uI_s, uI_n, bI_n0, bI_n1, bT, bF, if_true, if_false, not_true, not_false_eq_true, pk_div, pk_rem, Nat.reduceEqDiff, Nat.reduceLeDiff, Nat.reduceLT, Nat.reduceAdd, Nat.reduceMul, Nat.reduceSub, Nat.not_lt_zero, Nat.zero_le, reduceCtorEq, ite_self, n_rem, and_self, and_true, true_and, and_false, false_and, Nat.le_refl]
theorem cp_row {I : Nat → Nat → Int32} {k : Nat} {b : Int32} {u : Option Value} {r : Nat → Nat} (hk : k < 7) (hp : ∀ i, i < k + 1 → I 100 i = nI (r i)) : ∃ I', (∀ i, i < 8 → I' 101 i = if i < k + 1 then nI (r i) else I 101 i) ∧ (∀ c j, c ≠ 101 → I' c j = I c j) ∧ ∀ Q, Rn sc d 299 153 [some (.ref 89), some (.int b), some (.int (nI k)), u] [] (K0, I, J, R1 T) Q = Rn sc d 299 28 [some (.ref 89), some (.int b), some (.int (nI k)), some (.int (nI (k + 1)))] [] (K0, I', J, R1 T) Q := by
  obtain ⟨I', ⟨h1, h2⟩, h3⟩ := iterE (fun j I' => (∀ i, i < 8 → I' 101 i = if i < j then nI (r i) else I 101 i) ∧ ∀ c j, c ≠ 101 → I' c j = I c j) (fun j I' => fun Q => Rn sc d 299 155 [some (.ref 89), some (.int b), some (.int (nI k)), some (.int (nI j))] [] (K0, I', J, R1 T) Q) (k + 1) (by
    rintro j I1 hj ⟨k1, f1⟩
    have lj : ¬ k < j := by omega
    have e0 : I1 100 j = nI (r j) := (f1 _ _ (by omega)).trans (hp j hj)
    refine ⟨uI I1 101 j (nI (r j)), ⟨fun i hi => ?_, fun c k hc => (uI_n (by omega)).trans (f1 c k hc)⟩, funext fun Q => ?_⟩
    · by_cases e : i = j
      · rw [e, uI_s, if_pos (by omega)]
      · rw [uI_n (by omega), k1 i hi]
        by_cases c : i < j
        · rw [if_pos c, if_pos (by omega)]
        · rw [if_neg c, if_neg (by omega)]
    · show Rn _ _ _ _ _ _ _ _ = Rn _ _ _ _ _ _ _ _
      rw [x299_155]
      simp (disch := first | assumption | omega | decide) only [x299_156, x299_157, x299_158, x299_159, x299_160, x299_161, x299_162, x299_163, x299_164, x299_165, x299_166, x299_167, ↓reduceIte, Option.toList, List.nil_append, List.cons_append, nI_add, pk_mul, n_and, n_or, n_xor, nI_leI, nI_ltI, nI_eq, n_z, uI_s, uI_n, bI_n0, bI_n1, bT, bF, if_true, if_false, not_true, not_false_eq_true, pk_div, pk_rem, Nat.reduceEqDiff, Nat.reduceLeDiff, Nat.reduceLT, Nat.reduceAdd, Nat.reduceMul, Nat.reduceSub, Nat.not_lt_zero, Nat.zero_le, reduceCtorEq, ite_self, n_rem, and_self, and_true, true_and, and_false, false_and, lj, e0]) I ⟨fun i hi => by rw [if_neg (by omega)], fun _ _ _ => rfl⟩
  refine ⟨I', h1, h2, fun Q => ?_⟩
  have h3' := congrFun h3 Q
  have lk : k < k + 1 := by omega
  simp (disch := first | assumption | omega | decide) only [x299_153, x299_154, ↓reduceIte, Option.toList, List.nil_append, List.cons_append, nI_add, pk_mul, n_and, n_or, n_xor, nI_leI, nI_ltI, nI_eq, n_z, uI_s, uI_n, bI_n0, bI_n1, bT, bF, if_true, if_false, not_true, not_false_eq_true, pk_div, pk_rem, Nat.reduceEqDiff, Nat.reduceLeDiff, Nat.reduceLT, Nat.reduceAdd, Nat.reduceMul, Nat.reduceSub, Nat.not_lt_zero, Nat.zero_le, reduceCtorEq, ite_self, n_rem, and_self, and_true, true_and, and_false, false_and]
  refine Eq.trans h3' ?_
  show Rn _ _ _ _ _ _ _ _ = _
  rw [x299_155]
  simp (disch := first | assumption | omega | decide) only [x299_156, x299_157, x299_168, ↓reduceIte, Option.toList, List.nil_append, List.cons_append, nI_add, pk_mul, n_and, n_or, n_xor, nI_leI, nI_ltI, nI_eq, n_z, uI_s, uI_n, bI_n0, bI_n1, bT, bF, if_true, if_false, not_true, not_false_eq_true, pk_div, pk_rem, Nat.reduceEqDiff, Nat.reduceLeDiff, Nat.reduceLT, Nat.reduceAdd, Nat.reduceMul, Nat.reduceSub, Nat.not_lt_zero, Nat.zero_le, reduceCtorEq, ite_self, n_rem, and_self, and_true, true_and, and_false, false_and, lk]
/-- the load of a house, and the guest that is taken back -/
theorem pk_28 {I : Nat → Nat → Int32} {g r : Nat → Nat} {k h : Nat} {b : Int32} {u : Option Value} (k7 : k < 7) (hg : ∀ i, i < k + 1 → g i ≤ 4) (hh : h < 8) (m88 : I 90 (88 + k) = nI (g k)) (z : I 100 k = nI h) (hL : ∀ y, y < 8 → I 104 y = nI (ldN g (upA r k h) (k + 1) y)) : ∃ I', (∀ c j, c ≠ 100 ∧ c ≠ 104 → I' c j = I c j) ∧ (∀ i, i ≠ k → I' 100 i = I 100 i) ∧ I' 100 k = nI (h + 1) ∧ (∀ y, y < 8 → I' 104 y = nI (ldN g r k y)) ∧ ∀ Q, Rn sc d 299 28 [some (.ref 89), some (.int b), some (.int (nI k)), u] [] (K0, I, J, R1 T) Q = Rn sc d 299 59 [some (.ref 89), some (.int b), some (.int (nI k)), u] [] (K0, I', J, R1 T) Q := by
  have lb := ld_b (g := g) (r := r) (h := h) k (fun i hi => hg i (by omega))
  have gk := hg k (by omega)
  have e0 : I 104 h = nI (ldN g r k h + g k) := by rw [hL h hh, ld_u, if_pos rfl]
  obtain ⟨I', eI⟩ : ∃ X, X = uI (uI I 104 h (nI (ldN g r k h))) 100 k (nI (h + 1)) := ⟨_, rfl⟩
  refine ⟨I', fun c j hc => by rw [eI, uI_n (by omega), uI_n (by omega)], fun i hi => by rw [eI, uI_n (by omega), uI_n (by omega)], by rw [eI, uI_s], fun y hy => ?_, fun Q => ?_⟩
  · rw [eI, uI_n (by omega)]
    by_cases e : y = h
    · rw [e, uI_s]
    · rw [uI_n (by omega), hL y hy, ld_u, if_neg (fun q => e q.symm), Nat.add_zero]
  · rw [eI, x299_28]
    simp (disch := first | assumption | omega | decide) only [x299_29, x299_30, x299_31, x299_32, x299_33, x299_34, x299_35, x299_36, x299_37, x299_38, x299_39, x299_40, x299_41, x299_42, x299_43, x299_44, x299_45, x299_46, x299_47, x299_48, x299_49, x299_50, x299_51, x299_52, x299_53, x299_54, x299_55, x299_56, x299_57, x299_58, ↓reduceIte, Option.toList, List.nil_append, List.cons_append, nI_add, pk_mul, n_and, n_or, n_xor, nI_leI, nI_ltI, nI_eq, n_z, uI_s, uI_n, bI_n0, bI_n1, bT, bF, if_true, if_false, not_true, not_false_eq_true, pk_div, pk_rem, Nat.reduceEqDiff, Nat.reduceLeDiff, Nat.reduceLT, Nat.reduceAdd, Nat.reduceMul, Nat.reduceSub, Nat.not_lt_zero, Nat.zero_le, reduceCtorEq, ite_self, n_rem, and_self, and_true, true_and, and_false, false_and, z, e0, m88, n_sub (show g k ≤ ldN g r k h + g k by omega), Nat.add_sub_cancel]
def LvP (sc : Sc) (d : Nat) (A : Nat → Nat) (J : Nat → Nat → Int64) (T : Option Nat) (m : Nat) : Prop := ∀ (k : Nat) (r : Nat → Nat) (I : Nat → Nat → Int32) (s : Nat × (Nat → Int32)) (u : Option Value), k + (m + 1) = A 6 → (∀ i, i < k → r i < 8) → AtM I 90 A → (∀ i, i < k → I 100 i = nI (r i)) → I 100 k = -1 → (∀ y, y < 8 → I 104 y = nI (ldN (fun j => A (88 + j)) r k y)) → (∀ i, i < 8 → I 101 i = s.2 i) → okB s.1 → ∃ (I' : Nat → Nat → Int32) (u' : Option Value), (∀ c j, c ≠ 100 ∧ c ≠ 101 ∧ c ≠ 104 → I' c j = I c j) ∧ (∀ i, i < k → I' 100 i = nI (r i)) ∧ (∀ y, y < 8 → I' 104 y = nI (ldN (fun j => A (88 + j)) r k y)) ∧ (∀ i, i < 8 → I' 101 i = (pkA (fun j => A (88 + j)) (fun h => A (32 + h)) (m + 1) k r s).2 i) ∧ ∀ Q, Rn sc (d + 1) 299 28 [some (.ref 89), some (.int (bP s.1)), some (.int (nI k)), u] [] (K0, I, J, R1 T) Q = Rn sc (d + 1) 299 28 [some (.ref 89), some (.int (bP (pkA (fun j => A (88 + j)) (fun h => A (32 + h)) (m + 1) k r s).1)), some (.int (enB k)), u'] [] (K0, I', J, R1 T) Q
theorem lv_P {m : Nat} (w : Wf A) (H : ∀ p, p + 1 = m → LvP sc d A J T p) : LvP sc d A J T m := by
  intro k r I s u hk hr mA hp h0 hL hF hb
  have n7 : A 6 ≤ 7 := w.1.2.2.2.2.2.2.1
  have k7 : k < 7 := by omega
  have wg : ∀ j, j < A 6 → 1 ≤ A (88 + j) ∧ A (88 + j) ≤ 4 := w.2.2.2.1.2.1
  have wR : ∀ h, h < 8 → A (32 + h) ≤ 4 := w.2.1.2.2.1
  obtain ⟨g, eg⟩ : ∃ g, g = fun j => A (88 + j) := ⟨_, rfl⟩
  obtain ⟨R, eR⟩ : ∃ R, R = fun h => A (32 + h) := ⟨_, rfl⟩
  rw [← eg] at hL ⊢
  rw [← eR]
  have hg : ∀ i, i < A 6 → 1 ≤ g i ∧ g i ≤ 4 := by rw [eg]; exact wg
  have hR : ∀ h, h < 8 → R h ≤ 4 := by rw [eR]; exact wR
  have gk := hg k (by omega)
  have mg : ∀ I : Nat → Nat → Int32, AtM I 90 A → I 90 (88 + k) = nI (g k) := fun I m => by rw [eg]; exact m (88 + k) (by omega)
  have mR : ∀ (I : Nat → Nat → Int32) h, h < 8 → AtM I 90 A → I 90 (32 + h) = nI (R h) := fun I h hh m => by rw [eR]; exact m (32 + h) (by omega)
  have lb : ∀ y, ldN g r k y ≤ 4 * k := fun y => ld_b k (fun i hi => (hg i (by omega)).2)
  rw [pk_s]
  obtain ⟨⟨I', u'⟩, ⟨h1, h2, h4, h6, h5⟩, h3⟩ := iterE (St := (Nat → Nat → Int32) × Option Value) (fun h t => (∀ c j, c ≠ 100 ∧ c ≠ 101 ∧ c ≠ 104 → t.1 c j = I c j) ∧ (∀ i, i < k → t.1 100 i = nI (r i)) ∧ t.1 100 k = nI h ∧ (∀ y, y < 8 → t.1 104 y = nI (ldN g r k y)) ∧ (∀ i, i < 8 → t.1 101 i = (foldS (chP g R m k r) s h).2 i)) (fun h t => fun Q => Rn sc (d + 1) 299 59 [some (.ref 89), some (.int (bP (foldS (chP g R m k r) s h).1)), some (.int (nI k)), t.2] [] (K0, t.1, J, R1 T) Q) 8 (by
    rintro h ⟨I1, u1⟩ hh ⟨f1, p1, z1, L1, g1⟩
    have f1 : ∀ c j, c ≠ 100 ∧ c ≠ 101 ∧ c ≠ 104 → I1 c j = I c j := f1
    have p1 : ∀ i, i < k → I1 100 i = nI (r i) := p1
    have z1 : I1 100 k = nI h := z1
    have L1 : ∀ y, y < 8 → I1 104 y = nI (ldN g r k y) := L1
    have bt := fd_ok (g := g) (R := R) (m := m) (k := k) (r := r) hb h
    rw [foldS_s]
    obtain ⟨t, et⟩ : ∃ t, t = foldS (chP g R m k r) s h := ⟨_, rfl⟩
    have g2' : ∀ i, i < 8 → I1 101 i = t.2 i := fun i hi => by rw [et]; exact g1 i hi
    rw [← et] at bt ⊢
    have mA1 : AtM I1 90 A := AtM_c mA (fun k => f1 _ _ (by omega))
    have e88 := mg I1 mA1
    have e32 := mR I1 h hh mA1
    have e104 := L1 h hh
    have lbh := lb h
    have lRh := hR h hh
    have lh : ¬ 8 ≤ h := by omega
    have nh : ¬ h = 8 := by omega
    unfold chP
    by_cases c : ldN g r k h + g k ≤ R h
    · obtain ⟨I2, eI⟩ : ∃ X, X = uI I1 104 h (nI (ldN g r k h + g k)) := ⟨_, rfl⟩
      have f2 : ∀ c j, c ≠ 104 → I2 c j = I1 c j := fun c j hc => by rw [eI, uI_n (by omega)]
      have L2 : ∀ y, y < 8 → I2 104 y = nI (ldN g (upA r k h) (k + 1) y) := fun y hy => by
        rw [eI, ld_u]
        by_cases e : y = h
        · rw [e, uI_s, if_pos rfl]
        · rw [uI_n (by omega), if_neg (fun q => e q.symm), Nat.add_zero]
          exact L1 y hy
      have iu := sp_inUse (sc := sc) (d := d) (J := J) (T := T) (I := I2) (x := ldN g (upA r k h) (k + 1)) (fun y hy => ⟨L2 y hy, by
        have := ld_b (g := g) (r := upA r k h) (h := y) (k + 1) (fun i hi => (hg i (by omega)).2)
        omega⟩)
      have iu : ∀ Q, Rn sc d 298 0 [some (.ref 89), none, none] [] (K0, I2, J, R1 T) Q = Q (some (.int (nI (inU g (upA r k h) (k + 1))))) (K0, I2, J, R1 T) := iu
      have i8 := in_8 (g := g) (r := upA r k h) (k := k + 1)
      have q0 : ∀ Q, Rn sc (d + 1) 299 59 [some (.ref 89), some (.int (bP t.1)), some (.int (nI k)), u1] [] (K0, I1, J, R1 T) Q = Rn sc (d + 1) 299 127 [some (.ref 89), some (.int (bP t.1)), some (.int (nI k)), u1] [] (K0, I2, J, R1 T) Q := by
        intro Q
        rw [eI, x299_59]
        simp (disch := first | assumption | omega | decide) only [x299_60, x299_61, x299_62, x299_63, x299_64, x299_65, x299_66, x299_67, x299_68, x299_69, x299_70, x299_71, x299_72, x299_73, x299_74, x299_75, x299_76, x299_77, x299_78, x299_79, x299_80, x299_81, x299_82, x299_83, x299_84, x299_85, x299_86, x299_87, x299_88, x299_98, x299_99, x299_100, x299_101, x299_102, x299_103, x299_104, x299_105, x299_106, x299_107, x299_108, x299_109, x299_110, x299_111, x299_112, x299_113, x299_114, x299_115, x299_116, x299_117, x299_118, x299_119, x299_120, x299_121, x299_122, x299_123, x299_124, x299_125, x299_126, ↓reduceIte, Option.toList, List.nil_append, List.cons_append, nI_add, pk_mul, n_and, n_or, n_xor, nI_leI, nI_ltI, nI_eq, n_z, uI_s, uI_n, bI_n0, bI_n1, bT, bF, if_true, if_false, not_true, not_false_eq_true, pk_div, pk_rem, Nat.reduceEqDiff, Nat.reduceLeDiff, Nat.reduceLT, Nat.reduceAdd, Nat.reduceMul, Nat.reduceSub, Nat.not_lt_zero, Nat.zero_le, reduceCtorEq, ite_self, n_rem, and_self, and_true, true_and, and_false, false_and, z1, lh, nh, e104, e88, e32, c]
      have mA2 : AtM I2 90 A := AtM_c mA1 (fun k => f2 _ _ (by omega))
      have z2 : I2 100 k = nI h := (f2 _ _ (by decide)).trans z1
      by_cases c2 : inU g (upA r k h) (k + 1) < t.1
      · rw [if_pos ⟨c, c2⟩]
        have q1 : ∀ Q, Rn sc (d + 1) 299 127 [some (.ref 89), some (.int (bP t.1)), some (.int (nI k)), u1] [] (K0, I2, J, R1 T) Q = Rn sc (d + 1) 299 135 [some (.ref 89), some (.int (bP t.1)), some (.int (nI k)), u1] [] (K0, I2, J, R1 T) Q := by
          intro Q
          rcases bt with b8 | b8
          · rw [bP_n b8]
            simp (disch := first | assumption | omega | decide) only [x299_127, x299_128, x299_129, x299_130, x299_131, x299_132, x299_133, ↓reduceIte, Option.toList, List.nil_append, List.cons_append, nI_add, pk_mul, n_and, n_or, n_xor, nI_leI, nI_ltI, nI_eq, n_z, uI_s, uI_n, bI_n0, bI_n1, bT, bF, if_true, if_false, not_true, not_false_eq_true, pk_div, pk_rem, Nat.reduceEqDiff, Nat.reduceLeDiff, Nat.reduceLT, Nat.reduceAdd, Nat.reduceMul, Nat.reduceSub, Nat.not_lt_zero, Nat.zero_le, reduceCtorEq, ite_self, n_rem, and_self, and_true, true_and, and_false, false_and, n_m1e, iu, c2]
          · rw [b8, bP_1]
            simp (disch := first | assumption | omega | decide) only [x299_127, x299_128, x299_129, ↓reduceIte, Option.toList, List.nil_append, List.cons_append, nI_add, pk_mul, n_and, n_or, n_xor, nI_leI, nI_ltI, nI_eq, n_z, uI_s, uI_n, bI_n0, bI_n1, bT, bF, if_true, if_false, not_true, not_false_eq_true, pk_div, pk_rem, Nat.reduceEqDiff, Nat.reduceLeDiff, Nat.reduceLT, Nat.reduceAdd, Nat.reduceMul, Nat.reduceSub, Nat.not_lt_zero, Nat.zero_le, reduceCtorEq, ite_self, n_rem, and_self, and_true, true_and, and_false, false_and]
        by_cases cn : m = 0
        · subst cn
          have e6 := mA2 6 (by omega)
          have ln : A 6 ≤ k + 1 := by omega
          have pf : ∀ i, i < k + 1 → I2 100 i = nI (upA r k h i) := fun i hi => by
            by_cases e : i = k
            · rw [e, upA_s]; exact z2
            · rw [upA_n e, f2 100 i (by decide)]; exact p1 i (by omega)
          obtain ⟨I3, k3, f3, q3⟩ := cp_row (sc := sc) (d := d + 1) (J := J) (T := T) (b := nI (inU g (upA r k h) (k + 1))) (u := u1) k7 pf
          obtain ⟨I4, f4, p4, z4, L4, q4⟩ := pk_28 (sc := sc) (d := d + 1) (J := J) (T := T) (I := I3) (g := g) (r := r) (b := nI (inU g (upA r k h) (k + 1))) (u := some (.int (nI (k + 1)))) k7 (fun i hi => (hg i (by omega)).2) hh (mg I3 (AtM_c mA2 (fun k => f3 _ _ (by decide)))) ((f3 _ _ (by decide)).trans z2) (fun y hy => (f3 _ _ (by decide)).trans (L2 y hy))
          refine ⟨(I4, some (.int (nI (k + 1)))), ⟨fun c j hc => (f4 c j ⟨hc.1, hc.2.2⟩).trans ((f3 c j hc.2.1).trans ((f2 c j hc.2.2).trans (f1 c j hc))), fun i hi => (p4 i (by omega)).trans ((f3 _ _ (by decide)).trans ((f2 _ _ (by decide)).trans (p1 i hi))), z4, L4, fun i hi => ?_⟩, funext fun Q => ?_⟩
          · show I4 101 i = if i < k + 1 then nI (upA r k h i) else t.2 i
            rw [f4 101 i (by decide), k3 i hi]
            by_cases ci : i < k + 1
            · rw [if_pos ci, if_pos ci]
            · rw [if_neg ci, if_neg ci, f2 101 i (by decide)]
              exact g2' i hi
          · show Rn _ _ _ _ _ _ _ _ = Rn _ _ _ _ _ _ _ _
            have e9 : bP (inU g (upA r k h) (k + 1)) = nI (inU g (upA r k h) (k + 1)) := bP_n i8
            rw [q0, q1]
            refine Eq.trans ?_ (Eq.trans (q4 Q) (by rw [← e9]; rfl))
            rw [← q3]
            simp (disch := first | assumption | omega | decide) only [x299_135, x299_136, x299_137, x299_138, x299_139, x299_140, x299_141, x299_142, x299_150, x299_151, x299_152, ↓reduceIte, Option.toList, List.nil_append, List.cons_append, nI_add, pk_mul, n_and, n_or, n_xor, nI_leI, nI_ltI, nI_eq, n_z, uI_s, uI_n, bI_n0, bI_n1, bT, bF, if_true, if_false, not_true, not_false_eq_true, pk_div, pk_rem, Nat.reduceEqDiff, Nat.reduceLeDiff, Nat.reduceLT, Nat.reduceAdd, Nat.reduceMul, Nat.reduceSub, Nat.not_lt_zero, Nat.zero_le, reduceCtorEq, ite_self, n_rem, and_self, and_true, true_and, and_false, false_and, e6, ln, iu]
        · obtain ⟨p, rfl⟩ : ∃ p, m = p + 1 := ⟨m - 1, by omega⟩
          have e6 := mA2 6 (by omega)
          have ln : ¬ A 6 ≤ k + 1 := by omega
          have k8 : k + 1 < 8 := by omega
          have h2' := H p rfl (k + 1) (upA r k h) (uI I2 100 (k + 1) (-1)) t u1 (by omega) (fun i hi => by
            by_cases e : i = k
            · rw [upA_e e]; exact hh
            · rw [upA_n e]; exact hr i (by omega)) (AtM_c mA2 (fun k => uI_n (by omega))) (fun i hi => by
            rw [uI_n (by omega)]
            by_cases e : i = k
            · rw [e, upA_s]; exact z2
            · rw [upA_n e, f2 100 i (by decide)]; exact p1 i (by omega)) uI_s (fun y hy => by
            rw [← eg, uI_n (by omega)]
            exact L2 y hy) (fun i hi => (uI_n (by omega)).trans ((f2 101 i (by decide)).trans (g2' i hi))) bt
          rw [← eg, ← eR] at h2'
          obtain ⟨I3, u3, f3, p3, L3, g3, q3⟩ := h2'
          rw [enB_s] at q3
          have mA3 : AtM I3 90 A := AtM_c mA2 (fun k => (f3 _ _ (by decide)).trans (uI_n (by omega)))
          have z3 : I3 100 k = nI h := by rw [p3 k (by omega), upA_s]
          obtain ⟨I4, f4, p4, z4, L4, q4⟩ := pk_28 (sc := sc) (d := d + 1) (J := J) (T := T) (I := I3) (g := g) (r := r) (b := bP (pkA g R (p + 1) (k + 1) (upA r k h) t).1) (u := u3) k7 (fun i hi => (hg i (by omega)).2) hh (mg I3 mA3) z3 L3
          refine ⟨(I4, u3), ⟨fun c j hc => (f4 c j ⟨hc.1, hc.2.2⟩).trans ((f3 c j hc).trans ((uI_n (by omega)).trans ((f2 c j hc.2.2).trans (f1 c j hc)))), fun i hi => ?_, z4, L4, fun i hi => (f4 101 i (by decide)).trans (g3 i hi)⟩, funext fun Q => ?_⟩
          · show I4 100 i = _
            rw [p4 i (by omega), p3 i (by omega), upA_n (by omega)]
          · show Rn _ _ _ _ _ _ _ _ = Rn _ _ _ _ _ _ _ _
            rw [q0, q1, ← q4 Q, ← q3 Q]
            simp (disch := first | assumption | omega | decide) only [x299_135, x299_136, x299_137, x299_138, x299_139, x299_140, x299_141, x299_142, x299_143, x299_144, x299_145, x299_146, x299_147, x299_148, x299_149, ↓reduceIte, Option.toList, List.nil_append, List.cons_append, nI_add, pk_mul, n_and, n_or, n_xor, nI_leI, nI_ltI, nI_eq, n_z, uI_s, uI_n, bI_n0, bI_n1, bT, bF, if_true, if_false, not_true, not_false_eq_true, pk_div, pk_rem, Nat.reduceEqDiff, Nat.reduceLeDiff, Nat.reduceLT, Nat.reduceAdd, Nat.reduceMul, Nat.reduceSub, Nat.not_lt_zero, Nat.zero_le, reduceCtorEq, ite_self, n_rem, and_self, and_true, true_and, and_false, false_and, e6, ln]
      · rw [if_neg (fun q => c2 q.2)]
        have b8 : t.1 ≤ 8 := by
          rcases bt with b8 | b8
          · exact b8
          · omega
        obtain ⟨I4, f4, p4, z4, L4, q4⟩ := pk_28 (sc := sc) (d := d + 1) (J := J) (T := T) (I := I2) (g := g) (r := r) (b := bP t.1) (u := u1) k7 (fun i hi => (hg i (by omega)).2) hh (mg I2 mA2) z2 L2
        refine ⟨(I4, u1), ⟨fun c j hc => (f4 c j ⟨hc.1, hc.2.2⟩).trans ((f2 c j hc.2.2).trans (f1 c j hc)), fun i hi => (p4 i (by omega)).trans ((f2 _ _ (by decide)).trans (p1 i hi)), z4, L4, fun i hi => (f4 101 i (by decide)).trans ((f2 101 i (by decide)).trans (g2' i hi))⟩, funext fun Q => ?_⟩
        show Rn _ _ _ _ _ _ _ _ = Rn _ _ _ _ _ _ _ _
        rw [q0, ← q4 Q, bP_n b8]
        simp (disch := first | assumption | omega | decide) only [x299_127, x299_128, x299_129, x299_130, x299_131, x299_132, x299_133, x299_134, ↓reduceIte, Option.toList, List.nil_append, List.cons_append, nI_add, pk_mul, n_and, n_or, n_xor, nI_leI, nI_ltI, nI_eq, n_z, uI_s, uI_n, bI_n0, bI_n1, bT, bF, if_true, if_false, not_true, not_false_eq_true, pk_div, pk_rem, Nat.reduceEqDiff, Nat.reduceLeDiff, Nat.reduceLT, Nat.reduceAdd, Nat.reduceMul, Nat.reduceSub, Nat.not_lt_zero, Nat.zero_le, reduceCtorEq, ite_self, n_rem, and_self, and_true, true_and, and_false, false_and, n_m1e, iu, c2]
    · rw [if_neg (fun q => c q.1)]
      refine ⟨(uI I1 100 k (nI (h + 1)), u1), ⟨fun c j hc => (uI_n (by omega)).trans (f1 c j hc), fun i hi => (uI_n (Or.inr (by omega))).trans (p1 i hi), uI_s, fun y hy => ?_, fun i hi => ?_⟩, funext fun Q => ?_⟩
      · show uI I1 100 k (nI (h + 1)) 104 y = _
        rw [uI_n (by omega)]
        exact L1 y hy
      · show uI I1 100 k (nI (h + 1)) 101 i = _
        rw [uI_n (by omega)]
        exact g2' i hi
      show Rn _ _ _ _ _ _ _ _ = Rn _ _ _ _ _ _ _ _
      rw [x299_59]
      simp (disch := first | assumption | omega | decide) only [x299_60, x299_61, x299_62, x299_63, x299_64, x299_65, x299_66, x299_67, x299_68, x299_69, x299_70, x299_71, x299_72, x299_73, x299_74, x299_75, x299_76, x299_77, x299_78, x299_79, x299_80, x299_81, x299_82, x299_83, x299_84, x299_85, x299_86, x299_87, x299_88, x299_89, x299_90, x299_91, x299_92, x299_93, x299_94, x299_95, x299_96, x299_97, ↓reduceIte, Option.toList, List.nil_append, List.cons_append, nI_add, pk_mul, n_and, n_or, n_xor, nI_leI, nI_ltI, nI_eq, n_z, uI_s, uI_n, bI_n0, bI_n1, bT, bF, if_true, if_false, not_true, not_false_eq_true, pk_div, pk_rem, Nat.reduceEqDiff, Nat.reduceLeDiff, Nat.reduceLT, Nat.reduceAdd, Nat.reduceMul, Nat.reduceSub, Nat.not_lt_zero, Nat.zero_le, reduceCtorEq, ite_self, n_rem, and_self, and_true, true_and, and_false, false_and, z1, lh, e104, e88, e32, c]) (uI I 100 k (nI 0), u) ⟨fun c j hc => uI_n (by omega), fun i hi => (uI_n (Or.inr (by omega))).trans (hp i hi), uI_s, fun y hy => by
    show uI I 100 k (nI 0) 104 y = _
    rw [uI_n (by omega)]
    exact hL y hy, fun i hi => by
    show uI I 100 k (nI 0) 101 i = _
    rw [uI_n (by omega)]
    exact hF i hi⟩
  have h1 : ∀ c j, c ≠ 100 ∧ c ≠ 101 ∧ c ≠ 104 → I' c j = I c j := h1
  have h4 : I' 100 k = nI 8 := h4
  refine ⟨uI I' 100 k (-1), u', fun c j hc => (uI_n (by omega)).trans (h1 c j hc), fun i hi => by rw [uI_n (by omega)]; exact h2 i hi, fun y hy => by rw [uI_n (by omega)]; exact h6 y hy, fun i hi => by rw [uI_n (by omega)]; exact h5 i hi, fun Q => ?_⟩
  have h3' := congrFun h3 Q
  rw [x299_28]
  simp (disch := first | assumption | omega | decide) only [x299_29, x299_30, x299_31, x299_32, x299_33, x299_34, x299_51, x299_52, x299_53, x299_54, x299_55, x299_56, x299_57, x299_58, ↓reduceIte, Option.toList, List.nil_append, List.cons_append, nI_add, pk_mul, n_and, n_or, n_xor, nI_leI, nI_ltI, nI_eq, n_z, uI_s, uI_n, bI_n0, bI_n1, bT, bF, if_true, if_false, not_true, not_false_eq_true, pk_div, pk_rem, Nat.reduceEqDiff, Nat.reduceLeDiff, Nat.reduceLT, Nat.reduceAdd, Nat.reduceMul, Nat.reduceSub, Nat.not_lt_zero, Nat.zero_le, reduceCtorEq, ite_self, n_rem, and_self, and_true, true_and, and_false, false_and, h0, show ((-1 : Int32) < nI 0) = True from eq_true (by decide), m1_p]
  refine Eq.trans h3' ?_
  show Rn _ _ _ _ _ _ _ _ = _
  rw [x299_59]
  simp (disch := first | assumption | omega | decide) only [x299_60, x299_61, x299_62, x299_63, x299_64, x299_98, x299_99, x299_100, x299_101, x299_102, x299_103, x299_104, x299_105, x299_106, x299_107, x299_108, x299_109, x299_110, ↓reduceIte, Option.toList, List.nil_append, List.cons_append, nI_add, pk_mul, n_and, n_or, n_xor, nI_leI, nI_ltI, nI_eq, n_z, uI_s, uI_n, bI_n0, bI_n1, bT, bF, if_true, if_false, not_true, not_false_eq_true, pk_div, pk_rem, Nat.reduceEqDiff, Nat.reduceLeDiff, Nat.reduceLT, Nat.reduceAdd, Nat.reduceMul, Nat.reduceSub, Nat.not_lt_zero, Nat.zero_le, reduceCtorEq, ite_self, n_rem, and_self, and_true, true_and, and_false, false_and, h4, Nat.le_refl, lv_m (show k ≤ 8 by omega)]
theorem lvp_all (w : Wf A) : ∀ m, LvP sc d A J T m
  | 0 => lv_P w (fun p hp => by omega)
  | m + 1 => lv_P w (fun p hp => by
      obtain rfl : p = m := by omega
      exact lvp_all w p)
def r00 : Nat → Nat := fun _ => 0
theorem sp_layP {I : Nat → Nat → Int32} (w : Wf A) (mA : AtM I 90 A) : ∃ I', (∀ c j, c ≠ 100 ∧ c ≠ 101 ∧ c ≠ 104 → I' c j = I c j) ∧ (mnP (fun j => A (88 + j)) (fun h => A (32 + h)) (A 6) 0 r00 < 100 → ∀ i, i < A 6 → I' 101 i = nI (ptP (fun j => A (88 + j)) (fun h => A (32 + h)) (A 6) 0 r00 i)) ∧ ∀ Q, Rn sc (d + 1) 299 0 [some (.ref 89), none, none, none] [] (K0, I, J, R1 T) Q = Q (some (.int (bP (mnP (fun j => A (88 + j)) (fun h => A (32 + h)) (A 6) 0 r00)))) (K0, I', J, R1 T) := by
  have n7 : A 6 ≤ 7 := w.1.2.2.2.2.2.2.1
  obtain ⟨I1, ⟨k1, f1⟩, h1⟩ := iterE (fun h I' => (∀ y, y < h → I' 104 y = nI 0) ∧ ∀ c j, c ≠ 104 → I' c j = I c j) (fun h I' => fun Q => Rn sc (d + 1) 299 4 [some (.ref 89), some (.int (-1)), some (.int (nI h)), none] [] (K0, I', J, R1 T) Q) 8 (by
    rintro h I1 hh ⟨k1, f1⟩
    have lh : ¬ 8 ≤ h := by omega
    refine ⟨uI I1 104 h (nI 0), ⟨fun y hy => ?_, fun c j hc => (uI_n (by omega)).trans (f1 c j hc)⟩, funext fun Q => ?_⟩
    · by_cases e : y = h
      · rw [e, uI_s]
      · rw [uI_n (by omega)]
        exact k1 y (by omega)
    · show Rn _ _ _ _ _ _ _ _ = Rn _ _ _ _ _ _ _ _
      rw [x299_4]
      simp (disch := first | assumption | omega | decide) only [x299_5, x299_6, x299_7, x299_8, x299_9, x299_10, x299_11, x299_12, x299_13, ↓reduceIte, Option.toList, List.nil_append, List.cons_append, nI_add, pk_mul, n_and, n_or, n_xor, nI_leI, nI_ltI, nI_eq, n_z, uI_s, uI_n, bI_n0, bI_n1, bT, bF, if_true, if_false, not_true, not_false_eq_true, pk_div, pk_rem, Nat.reduceEqDiff, Nat.reduceLeDiff, Nat.reduceLT, Nat.reduceAdd, Nat.reduceMul, Nat.reduceSub, Nat.not_lt_zero, Nat.zero_le, reduceCtorEq, ite_self, n_rem, and_self, and_true, true_and, and_false, false_and, lh]) I ⟨fun y hy => by omega, fun _ _ _ => rfl⟩
  have mA1 : AtM I1 90 A := AtM_c mA (fun k => f1 _ _ (by decide))
  have e6 := mA1 6 (by omega)
  by_cases c : A 6 = 0
  · refine ⟨I1, fun c j hc => f1 c j hc.2.2, fun _ i hi => by omega, fun Q => ?_⟩
    have h1' := congrFun h1 Q
    have e0 : mnP (fun j => A (88 + j)) (fun h => A (32 + h)) (A 6) 0 r00 = 0 := by
      rw [c]
      rfl
    have e9 : bP 0 = nI 0 := rfl
    rw [e0, e9]
    simp (disch := first | assumption | omega | decide) only [x299_0, x299_1, x299_2, x299_3, ↓reduceIte, Option.toList, List.nil_append, List.cons_append, nI_add, pk_mul, n_and, n_or, n_xor, nI_leI, nI_ltI, nI_eq, n_z, uI_s, uI_n, bI_n0, bI_n1, bT, bF, if_true, if_false, not_true, not_false_eq_true, pk_div, pk_rem, Nat.reduceEqDiff, Nat.reduceLeDiff, Nat.reduceLT, Nat.reduceAdd, Nat.reduceMul, Nat.reduceSub, Nat.not_lt_zero, Nat.zero_le, reduceCtorEq, ite_self, n_rem, and_self, and_true, true_and, and_false, false_and]
    refine Eq.trans h1' ?_
    show Rn _ _ _ _ _ _ _ _ = _
    rw [x299_4]
    simp (disch := first | assumption | omega | decide) only [x299_5, x299_6, x299_14, x299_15, x299_16, x299_17, x299_18, x299_19, x299_20, ↓reduceIte, Option.toList, List.nil_append, List.cons_append, nI_add, pk_mul, n_and, n_or, n_xor, nI_leI, nI_ltI, nI_eq, n_z, uI_s, uI_n, bI_n0, bI_n1, bT, bF, if_true, if_false, not_true, not_false_eq_true, pk_div, pk_rem, Nat.reduceEqDiff, Nat.reduceLeDiff, Nat.reduceLT, Nat.reduceAdd, Nat.reduceMul, Nat.reduceSub, Nat.not_lt_zero, Nat.zero_le, reduceCtorEq, ite_self, n_rem, and_self, and_true, true_and, and_false, false_and, Nat.le_refl, e6, c]
  · obtain ⟨m, em⟩ : ∃ m, A 6 = m + 1 := ⟨A 6 - 1, by omega⟩
    obtain ⟨I2, u2, f2, p2, L2, g2, q2⟩ := lvp_all (sc := sc) (d := d) (J := J) (T := T) w m 0 r00 (uI I1 100 0 (-1)) (100, fun i => I1 101 i) none (by omega) (fun i hi => by omega) (AtM_c mA1 (fun k => uI_n (by omega))) (fun i hi => by omega) uI_s (fun y hy => (uI_n (by omega)).trans (k1 y hy)) (fun i hi => uI_n (by omega)) (Or.inr rfl)
    have pr := pk_res (g := fun j => A (88 + j)) (R := fun h => A (32 + h)) (m + 1) 0 r00 100 (fun i => I1 101 i) (by omega) (fun h => by omega)
    have mb := mn_100 (g := fun j => A (88 + j)) (R := fun h => A (32 + h)) (m + 1) 0 r00
    rw [em]
    obtain ⟨v, ev⟩ : ∃ v, v = mnP (fun j => A (88 + j)) (fun h => A (32 + h)) (m + 1) 0 r00 := ⟨_, rfl⟩
    rw [← ev] at pr mb ⊢
    obtain ⟨G, eG⟩ : ∃ G : Nat → Nat, G = ptP (fun j => A (88 + j)) (fun h => A (32 + h)) (m + 1) 0 r00 := ⟨_, rfl⟩
    rw [← eG] at pr ⊢
    obtain ⟨s, es⟩ : ∃ s, s = pkA (fun j => A (88 + j)) (fun h => A (32 + h)) (m + 1) 0 r00 (100, fun i => I1 101 i) := ⟨_, rfl⟩
    rw [← es] at pr q2 g2
    have e9 : s.1 = v := by
      by_cases c9 : v < 100
      · rw [if_pos c9] at pr
        rw [pr]
      · rw [if_neg c9] at pr
        rw [pr]
        show 100 = v
        omega
    rw [e9, enB_0] at q2
    refine ⟨I2, fun c j hc => (f2 c j hc).trans ((uI_n (by omega)).trans (f1 c j hc.2.2)), fun hl i hi => ?_, fun Q => ?_⟩
    · rw [if_pos hl] at pr
      rw [g2 i (by omega), pr]
      exact if_pos (by omega)
    · have h1' := congrFun h1 Q
      have q2' : Rn sc (d + 1) 299 28 [some (.ref 89), some (.int (-1)), some (.int (nI 0)), none] [] (K0, uI I1 100 0 (-1), J, R1 T) Q = _ := q2 Q
      simp (disch := first | assumption | omega | decide) only [x299_0, x299_1, x299_2, x299_3, ↓reduceIte, Option.toList, List.nil_append, List.cons_append, nI_add, pk_mul, n_and, n_or, n_xor, nI_leI, nI_ltI, nI_eq, n_z, uI_s, uI_n, bI_n0, bI_n1, bT, bF, if_true, if_false, not_true, not_false_eq_true, pk_div, pk_rem, Nat.reduceEqDiff, Nat.reduceLeDiff, Nat.reduceLT, Nat.reduceAdd, Nat.reduceMul, Nat.reduceSub, Nat.not_lt_zero, Nat.zero_le, reduceCtorEq, ite_self, n_rem, and_self, and_true, true_and, and_false, false_and]
      refine Eq.trans h1' ?_
      show Rn _ _ _ _ _ _ _ _ = _
      rw [x299_4]
      simp (disch := first | assumption | omega | decide) only [x299_5, x299_6, x299_14, x299_15, x299_16, x299_17, x299_18, x299_19, x299_20, x299_21, x299_22, x299_23, x299_24, x299_25, x299_26, x299_27, ↓reduceIte, Option.toList, List.nil_append, List.cons_append, nI_add, pk_mul, n_and, n_or, n_xor, nI_leI, nI_ltI, nI_eq, n_z, uI_s, uI_n, bI_n0, bI_n1, bT, bF, if_true, if_false, not_true, not_false_eq_true, pk_div, pk_rem, Nat.reduceEqDiff, Nat.reduceLeDiff, Nat.reduceLT, Nat.reduceAdd, Nat.reduceMul, Nat.reduceSub, Nat.not_lt_zero, Nat.zero_le, reduceCtorEq, ite_self, n_rem, and_self, and_true, true_and, and_false, false_and, Nat.le_refl, e6, c]
      rw [q2', x299_28]
      simp (disch := first | assumption | omega | decide) only [x299_29, x299_169, x299_170, ↓reduceIte, Option.toList, List.nil_append, List.cons_append, nI_add, pk_mul, n_and, n_or, n_xor, nI_leI, nI_ltI, nI_eq, n_z, uI_s, uI_n, bI_n0, bI_n1, bT, bF, if_true, if_false, not_true, not_false_eq_true, pk_div, pk_rem, Nat.reduceEqDiff, Nat.reduceLeDiff, Nat.reduceLT, Nat.reduceAdd, Nat.reduceMul, Nat.reduceSub, Nat.not_lt_zero, Nat.zero_le, reduceCtorEq, ite_self, n_rem, and_self, and_true, true_and, and_false, false_and, show ((-1 : Int32) < nI 0) = True from eq_true (by decide)]
end PackM
theorem wi_a : ∀ n, n < 8 → (-1 : Int32) ≤ nI n - nI 1 := by decide +kernel
theorem wi_b : ∀ n, n < 8 → ∀ i, i < n → (-1 : Int32) ≤ nI i ∧ nI i ≤ nI n - nI 1 := by decide +kernel
theorem wi_t : ∀ n, n < 8 → (nI n - nI 1).toInt = (n : Int) - 1 := by decide +kernel
theorem wi_c {x : Int32} {n : Nat} (hn : n < 8) (h1 : ¬ x = -1) (h2 : ¬ inR x n) : ¬ ((-1 : Int32) ≤ x ∧ x ≤ nI n - nI 1) := by
  rintro ⟨a, b⟩
  rw [Int32.le_iff_toInt_le] at a b
  rw [wi_t n hn] at b
  have e : (-1 : Int32).toInt = -1 := by decide
  rw [e] at a
  by_cases c : x.toInt = -1
  · exact h1 (Int32.toInt_inj.1 (c.trans e.symm))
  · refine h2 ⟨x.toInt.toNat, by omega, Int32.toInt_inj.1 ?_⟩
    rw [nI_toInt (by omega)]
    omega
section Packed
variable {TX : (Nat → Nat → Int32) → Nat → Prop} {sc : Sc} {d : Nat}
theorem jt_packed {x : Int32} : Jt TX sc (d + 5) 152 300 [some (.ref 0), some (.int x), none] [some (.ref 89), some (.int x), none] := by
  intro A B M w _
  have w' := w
  obtain ⟨wA, wB, wt⟩ := w
  have n7 : A 6 ≤ 7 := wA.1.2.2.2.2.2.2.1
  have wg : ∀ j, j < A 6 → 1 ≤ A (88 + j) ∧ A (88 + j) ≤ 4 := wA.2.2.2.1.2.1
  have wR : ∀ h, h < 8 → A (32 + h) ≤ 4 := wA.2.1.2.2.1
  obtain ⟨v, ev⟩ : ∃ v, v = mnP (fun j => A (88 + j)) (fun h => A (32 + h)) (A 6) 0 r00 := ⟨_, rfl⟩
  have v8 : v < 100 → v ≤ 8 := by
    rw [ev]
    exact mn_8 _ _ _
  have v100 : v ≤ 100 := by
    rw [ev]
    exact mn_100 _ _ _
  have hw : (bI ((-1 : Int32) ≤ x ∧ x ≤ nI (A 6) - nI 1) = nI 0 ∧ True) ∨ (bI ((-1 : Int32) ≤ x ∧ x ≤ nI (A 6) - nI 1) = nI 1 ∧ (x = -1 ∨ ∃ i, i < A 6 ∧ x = nI i)) := by
    by_cases h1 : x = -1
    · refine Or.inr ⟨bI_t ⟨?_, ?_⟩, Or.inl h1⟩
      · rw [h1]; exact Int32.le_refl _
      · rw [h1]; exact wi_a _ (by omega)
    · by_cases h2 : inR x (A 6)
      · obtain ⟨i, hi, rfl⟩ := h2
        exact Or.inr ⟨bI_t (wi_b _ (by omega) i hi), Or.inr ⟨i, hi, rfl⟩⟩
      · exact Or.inl ⟨bI_f (wi_c (by omega) h1 h2), trivial⟩
  rcases hw with ⟨hw, -⟩ | ⟨hw, hx⟩
  · refine jtR w' (-2) ?_ ?_ <;> intro I J T Q hI
    · have e4 : I 32 4 = nI (A 6) := hI.2.2.2.2.1.2.1
      simp (disch := first | assumption | omega | decide) only [x152_0, x152_1, x152_2, x152_3, x152_4, x152_5, x152_6, x152_7, x152_8, x152_9, x152_10, ↓reduceIte, Option.toList, List.nil_append, List.cons_append, nI_add, pk_mul, n_and, n_or, n_xor, nI_leI, nI_ltI, nI_eq, n_z, uI_s, uI_n, bI_n0, bI_n1, bT, bF, if_true, if_false, not_true, not_false_eq_true, pk_div, pk_rem, Nat.reduceEqDiff, Nat.reduceLeDiff, Nat.reduceLT, Nat.reduceAdd, Nat.reduceMul, Nat.reduceSub, Nat.not_lt_zero, Nat.zero_le, reduceCtorEq, ite_self, n_rem, and_self, and_true, true_and, and_false, false_and, e4, sp_isWithin, hw]
    · have e6 := hI.1 6 (by omega)
      simp (disch := first | assumption | omega | decide) only [x300_0, x300_1, x300_2, x300_3, x300_4, x300_5, x300_6, x300_7, x300_8, x300_9, x300_10, x300_11, ↓reduceIte, Option.toList, List.nil_append, List.cons_append, nI_add, pk_mul, n_and, n_or, n_xor, nI_leI, nI_ltI, nI_eq, n_z, uI_s, uI_n, bI_n0, bI_n1, bT, bF, if_true, if_false, not_true, not_false_eq_true, pk_div, pk_rem, Nat.reduceEqDiff, Nat.reduceLeDiff, Nat.reduceLT, Nat.reduceAdd, Nat.reduceMul, Nat.reduceSub, Nat.not_lt_zero, Nat.zero_le, reduceCtorEq, ite_self, n_rem, and_self, and_true, true_and, and_false, false_and, e6, sp_isIn, hw]
  · refine ⟨if v < 100 then (if x = -1 then nI v else nI (ptP (fun j => A (88 + j)) (fun h => A (32 + h)) (A 6) 0 r00 (vN x))) else -2, A, B, w', Nat.le_refl _, ?_, ?_⟩
    · intro I J T cI _
      have e4 : I 32 4 = nI (A 6) := cI.2.2.2.2.1.2.1
      obtain ⟨I1, f1, L1, F1, q1⟩ := sp_house (sc := sc) (d := d + 2) (J := J) (T := T) (I := I) (g := fun j => A (88 + j)) (R := fun h => A (32 + h)) r00 n7 e4 (fun j hj => cI.2.2.2.2.1.2.2.2.2.1 j hj) (fun h hh => cI.1.1 h hh) wg wR
      rw [← ev] at q1
      have c1 := CI_c w' cI (I' := I1) (fun c k hc => f1 c k (by omega))
      by_cases c : v < 100
      · have c8 := v8 c
        rw [if_pos c]
        by_cases h1 : x = -1
        · subst h1
          rw [if_pos rfl]
          refine ⟨I1, fun c k hc => f1 c k (by omega), c1, fun Q => ?_⟩
          simp (disch := first | assumption | omega | decide) only [x152_0, x152_1, x152_2, x152_3, x152_4, x152_5, x152_6, x152_7, x152_8, x152_9, x152_10, x152_11, x152_12, x152_13, x152_14, x152_15, x152_16, x152_17, x152_18, x152_19, x152_20, x152_21, x152_22, x152_23, x152_24, ↓reduceIte, Option.toList, List.nil_append, List.cons_append, nI_add, pk_mul, n_and, n_or, n_xor, nI_leI, nI_ltI, nI_eq, n_z, uI_s, uI_n, bI_n0, bI_n1, bT, bF, if_true, if_false, not_true, not_false_eq_true, pk_div, pk_rem, Nat.reduceEqDiff, Nat.reduceLeDiff, Nat.reduceLT, Nat.reduceAdd, Nat.reduceMul, Nat.reduceSub, Nat.not_lt_zero, Nat.zero_le, reduceCtorEq, ite_self, n_rem, and_self, and_true, true_and, and_false, false_and, e4, sp_isWithin, hw, q1, c8]
        · rw [if_neg h1]
          obtain ⟨i, hi, rfl⟩ : ∃ i, i < A 6 ∧ x = nI i := hx.elim (fun h => absurd h h1) id
          obtain ⟨I2, f2, k2, q2⟩ := sp_place (sc := sc) (d := d + 1) (J := J) (T := T) (I := I1) (g := fun j => A (88 + j)) (R := fun h => A (32 + h)) n7 wg wR ev.symm c L1 F1
          have c2 := CI_c w' c1 (I' := I2) (fun c k hc => f2 c k (by omega))
          refine ⟨I2, fun c k hc => (f2 c k (by omega)).trans (f1 c k (by omega)), c2, fun Q => ?_⟩
          have k2' := k2 i hi
          have i7 : i < 7 := by omega
          rw [vN_nI (by omega)]
          simp (disch := first | assumption | omega | decide) only [x152_0, x152_1, x152_2, x152_3, x152_4, x152_5, x152_6, x152_7, x152_8, x152_9, x152_10, x152_11, x152_12, x152_13, x152_14, x152_15, x152_16, x152_17, x152_18, x152_19, x152_20, x152_21, x152_22, x152_23, x152_24, x152_25, x152_26, x152_27, x152_28, x152_29, x152_30, x152_31, x152_32, x152_33, x152_34, ↓reduceIte, Option.toList, List.nil_append, List.cons_append, nI_add, pk_mul, n_and, n_or, n_xor, nI_leI, nI_ltI, nI_eq, n_z, uI_s, uI_n, bI_n0, bI_n1, bT, bF, if_true, if_false, not_true, not_false_eq_true, pk_div, pk_rem, Nat.reduceEqDiff, Nat.reduceLeDiff, Nat.reduceLT, Nat.reduceAdd, Nat.reduceMul, Nat.reduceSub, Nat.not_lt_zero, Nat.zero_le, reduceCtorEq, ite_self, n_rem, and_self, and_true, true_and, and_false, false_and, e4, sp_isWithin, hw, q1, c8, n_m1e, q2, k2']
      · have c8 : ¬ v ≤ 8 := by omega
        rw [if_neg c]
        refine ⟨I1, fun c k hc => f1 c k (by omega), c1, fun Q => ?_⟩
        simp (disch := first | assumption | omega | decide) only [x152_0, x152_1, x152_2, x152_3, x152_4, x152_5, x152_6, x152_7, x152_8, x152_9, x152_10, x152_11, x152_12, x152_13, x152_14, x152_15, x152_16, x152_17, x152_18, x152_19, ↓reduceIte, Option.toList, List.nil_append, List.cons_append, nI_add, pk_mul, n_and, n_or, n_xor, nI_leI, nI_ltI, nI_eq, n_z, uI_s, uI_n, bI_n0, bI_n1, bT, bF, if_true, if_false, not_true, not_false_eq_true, pk_div, pk_rem, Nat.reduceEqDiff, Nat.reduceLeDiff, Nat.reduceLT, Nat.reduceAdd, Nat.reduceMul, Nat.reduceSub, Nat.not_lt_zero, Nat.zero_le, reduceCtorEq, ite_self, n_rem, and_self, and_true, true_and, and_false, false_and, e4, sp_isWithin, hw, q1, c8]
    · intro I J T mI _
      have e6 := mI.1 6 (by omega)
      obtain ⟨I1, f1, k1, q1⟩ := sp_layP (sc := sc) (d := d + 3) (J := J) (T := T) wA mI.1
      rw [← ev] at q1 k1
      have m1 : MI I1 A B := MI_c mI (fun c k hc => f1 c k (by omega)) (f1 _ _ (by decide))
      refine ⟨I1, J, ⟨fun c k hc => f1 c k (by omega), fun k hk => f1 89 k (by decide)⟩, m1, fun Q => ?_⟩
      by_cases c : v < 100
      · have c8 := v8 c
        rw [if_pos c]
        rw [bP_n c8] at q1
        by_cases h1 : x = -1
        · subst h1
          rw [if_pos rfl]
          simp (disch := first | assumption | omega | decide) only [x300_0, x300_1, x300_2, x300_3, x300_4, x300_5, x300_6, x300_7, x300_8, x300_9, x300_10, x300_11, x300_12, x300_13, x300_14, x300_15, x300_16, x300_17, x300_18, x300_19, x300_20, x300_21, x300_22, x300_23, x300_24, x300_25, x300_26, x300_27, x300_28, x300_29, ↓reduceIte, Option.toList, List.nil_append, List.cons_append, nI_add, pk_mul, n_and, n_or, n_xor, nI_leI, nI_ltI, nI_eq, n_z, uI_s, uI_n, bI_n0, bI_n1, bT, bF, if_true, if_false, not_true, not_false_eq_true, pk_div, pk_rem, Nat.reduceEqDiff, Nat.reduceLeDiff, Nat.reduceLT, Nat.reduceAdd, Nat.reduceMul, Nat.reduceSub, Nat.not_lt_zero, Nat.zero_le, reduceCtorEq, ite_self, n_rem, and_self, and_true, true_and, and_false, false_and, e6, sp_isIn, hw, q1, n_m1e]
        · rw [if_neg h1]
          obtain ⟨i, hi, rfl⟩ : ∃ i, i < A 6 ∧ x = nI i := hx.elim (fun h => absurd h h1) id
          have k2' := k1 c i hi
          have i7 : i < 8 := by omega
          rw [vN_nI (by omega)]
          simp (disch := first | assumption | omega | decide) only [x300_0, x300_1, x300_2, x300_3, x300_4, x300_5, x300_6, x300_7, x300_8, x300_9, x300_10, x300_11, x300_12, x300_13, x300_14, x300_15, x300_16, x300_17, x300_18, x300_19, x300_20, x300_21, x300_22, x300_23, x300_24, x300_25, x300_26, x300_27, x300_28, x300_29, ↓reduceIte, Option.toList, List.nil_append, List.cons_append, nI_add, pk_mul, n_and, n_or, n_xor, nI_leI, nI_ltI, nI_eq, n_z, uI_s, uI_n, bI_n0, bI_n1, bT, bF, if_true, if_false, not_true, not_false_eq_true, pk_div, pk_rem, Nat.reduceEqDiff, Nat.reduceLeDiff, Nat.reduceLT, Nat.reduceAdd, Nat.reduceMul, Nat.reduceSub, Nat.not_lt_zero, Nat.zero_le, reduceCtorEq, ite_self, n_rem, and_self, and_true, true_and, and_false, false_and, e6, sp_isIn, hw, q1, n_m1e, k2']
      · have e1 : bP v = -1 := if_neg c
        rw [if_neg c]
        rw [e1] at q1
        simp (disch := first | assumption | omega | decide) only [x300_0, x300_1, x300_2, x300_3, x300_4, x300_5, x300_6, x300_7, x300_8, x300_9, x300_10, x300_11, x300_12, x300_13, x300_14, x300_15, x300_16, x300_17, x300_18, x300_19, x300_20, x300_21, x300_22, x300_23, x300_24, x300_25, x300_26, x300_27, x300_28, x300_29, ↓reduceIte, Option.toList, List.nil_append, List.cons_append, nI_add, pk_mul, n_and, n_or, n_xor, nI_leI, nI_ltI, nI_eq, n_z, uI_s, uI_n, bI_n0, bI_n1, bT, bF, if_true, if_false, not_true, not_false_eq_true, pk_div, pk_rem, Nat.reduceEqDiff, Nat.reduceLeDiff, Nat.reduceLT, Nat.reduceAdd, Nat.reduceMul, Nat.reduceSub, Nat.not_lt_zero, Nat.zero_le, reduceCtorEq, ite_self, n_rem, and_self, and_true, true_and, and_false, false_and, e6, sp_isIn, hw, q1]
end Packed
