/-! a rent is paid -/
theorem iterE {St β : Type} (W : Nat → St → Prop) (F : Nat → St → β) : ∀ n, (∀ j s, j < n → W j s → ∃ s', W (j + 1) s' ∧ F j s = F (j + 1) s') → ∀ s, W 0 s → ∃ s', W n s' ∧ F 0 s = F n s'
  | 0, _, s, h => ⟨s, h, rfl⟩
  | n + 1, hs, s, h => by
    obtain ⟨s1, h1, e1⟩ := iterE W F n (fun j s hj => hs j s (by omega)) s h
    obtain ⟨s2, h2, e2⟩ := hs n s1 (by omega) h1
    exact ⟨s2, h2, e1.trans e2⟩
def pyS (g : (Nat → Nat) → Nat → Nat → Nat) (A : Nat → Nat) (h r : Nat) : Nat := if A (28 + r) < g A h r then A (28 + r) else g A h r
def pyI (n : Nat) : Nat := if 9999 < n then 9999 else n
def pyA (g : (Nat → Nat) → Nat → Nat → Nat) (A : Nat → Nat) (h r : Nat) : Nat → Nat := upA (upA (upA A (28 + r) (A (28 + r) - pyS g A h r)) (20 + h) (pyI (A (20 + h) + pyS g A h r))) 10 (A 10 + pyS g A h r)
theorem py_o {g : (Nat → Nat) → Nat → Nat → Nat} {A : Nat → Nat} {h r k : Nat} (hk : k ≠ 28 + r ∧ k ≠ 20 + h ∧ k ≠ 10) : pyA g A h r k = A k := by
  unfold pyA
  rw [upA_n hk.2.2, upA_n hk.2.1, upA_n hk.1]
theorem pyS_l {g : (Nat → Nat) → Nat → Nat → Nat} {A : Nat → Nat} {h r : Nat} : pyS g A h r ≤ A (28 + r) ∧ pyS g A h r ≤ g A h r := by
  unfold pyS
  split <;> omega
theorem py_W {g : (Nat → Nat) → Nat → Nat → Nat} {A : Nat → Nat} {h r : Nat} (w : Wf A) (hh : h < 8) (hr : r < A 1) (hg : g A h r ≤ 99) (hp : A 10 + 99 < 1000000) : Wf (pyA g A h r) := by
  have wA := w
  have w1 : A 1 ≤ 4 := w.1.2.1
  have hs := pyS_l (g := g) (A := A) (h := h) (r := r)
  obtain ⟨A', eA⟩ : ∃ X, X = pyA g A h r := ⟨_, rfl⟩
  have fA : ∀ k, k ≠ 28 + r ∧ k ≠ 20 + h ∧ k ≠ 10 → A' k = A k := fun k hk => by rw [eA]; exact py_o hk
  have e1 : A' 10 = A 10 + pyS g A h r := by rw [eA, pyA, upA_s]
  have e2 : A' (20 + h) = pyI (A (20 + h) + pyS g A h r) := by rw [eA, pyA, upA_n (by omega), upA_s]
  have e3 : A' (28 + r) = A (28 + r) - pyS g A h r := by rw [eA, pyA, upA_n (by omega), upA_n (by omega), upA_s]
  rw [← eA]
  refine ⟨?_, ?_, (Wf3_c (fun k hk => fA k (by omega)) wA.1.1 wA.2.2.1), (Wf4_c (fun k hk => fA k (by omega)) wA.1 wA.2.2.2.1), (Wf5_c (fun k hk => fA k (by omega)) wA.1.2.2.2.2.1 wA.2.2.2.2)⟩
  · obtain ⟨v0, v1, v2, v3, v4, v5, v6, v7, v8, v9, v10, v11⟩ := w.1
    unfold Wf1
    rw [fA 0 (by omega), fA 1 (by omega), fA 2 (by omega), fA 3 (by omega), fA 4 (by omega), fA 5 (by omega), fA 6 (by omega), fA 7 (by omega), fA 8 (by omega), fA 9 (by omega), e1, fA 11 (by omega)]
    exact ⟨v0, v1, v2, v3, v4, v5, v6, v7, v8, v9, by omega, v11⟩
  · obtain ⟨v1, v2, v3, v4, v5, v6, v7⟩ := wA.2.1
    refine ⟨?_, ?_, ?_, ?_, ?_, ?_, ?_⟩
    · intro j hj; rw [fA _ (by omega), fA 1 (by omega)]; exact v1 j hj
    · intro j hj
      by_cases e : j = h
      · rw [e, e2]
        unfold pyI
        split <;> omega
      · rw [fA _ (by omega)]; exact v2 j hj
    · intro j hj; rw [fA _ (by omega)]; exact v3 j hj
    · intro j hj
      by_cases e : j = r
      · rw [e, e3]
        have := v4 r (by omega)
        omega
      · rw [fA _ (by omega)]; exact v4 j hj
    · intro j hj; rw [fA _ (by omega)]; exact v5 j hj
    · intro j hj; rw [fA _ (by omega)]; exact v6 j hj
    · intro j hj; rw [fA _ (by omega)]; exact v7 j hj
section Pay
variable {sc : Sc} {d : Nat} {I : Nat → Nat → Int32} {J : Nat → Nat → Int64} {T : Option Nat} {A : Nat → Nat} {M : Nat → Nat → Int32} {tx : Nat} {g : (Nat → Nat) → Nat → Nat → Nat}
theorem sp_payCa {h r : Nat} (hC : RntC M tx g) (w : Wf A) (hh : h < 8) (hr : r < A 1) (hg : g A h r ≤ 99) (t : Twn I 1 2 3 4 5 6 7 8 9 A) (eM : txI I = M) : ∃ I', (∀ c k, c ≠ 69 ∧ c ≠ 70 ∧ c ≠ 1 ∧ c ≠ 3 ∧ c ≠ 6 → I' c k = I c k) ∧ Twn I' 1 2 3 4 5 6 7 8 9 (pyA g A h r) ∧ ∀ Q, Rn sc (d + 5) 3 0 [some (.ref 71), some (.ref 1), some (LwC tx), some (.int (nI h)), some (.int (nI r)), none] [] (K0, I, J, R1 T) Q = Q none (K0, I', J, R1 T) := by
  have w0 : A 0 ≤ 12 := w.1.1
  have w1 : A 1 ≤ 4 := w.1.2.1
  have l1 : A (28 + r) ≤ 9999 := w.2.1.2.2.2.1 r (by omega)
  have l2 : A (20 + h) ≤ 9999 := w.2.1.2.1 h hh
  have l3 : A 10 < 1000000 := w.1.2.2.2.2.2.2.2.2.2.2.1
  have hs := pyS_l (g := g) (A := A) (h := h) (r := r)
  obtain ⟨p1, p2⟩ := hC sc d J T A I h r w hh hr eM
  obtain ⟨I0, f0, q0⟩ := p1 t
  have t0 : Twn I0 1 2 3 4 5 6 7 8 9 A := Twn_c t (fun c k hc => f0 c k (by omega)) (fun _ _ _ _ => rfl) ⟨w0, w1⟩
  obtain ⟨I1, eI⟩ : ∃ X, X = uI (uI (uI I0 6 r (nI (A (28 + r) - pyS g A h r))) 3 h (nI (pyI (A (20 + h) + pyS g A h r)))) 1 13 (nI (A 10 + pyS g A h r)) := ⟨_, rfl⟩
  have fI : ∀ c k, (c ≠ 6 ∨ k ≠ r) ∧ (c ≠ 3 ∨ k ≠ h) ∧ (c ≠ 1 ∨ k ≠ 13) → I1 c k = I0 c k := fun c k hk => by rw [eI, uI_n (by omega), uI_n (by omega), uI_n (by omega)]
  have fA : ∀ k, k ≠ 28 + r ∧ k ≠ 20 + h ∧ k ≠ 10 → pyA g A h r k = A k := fun k hk => py_o hk
  have f1 : pyA g A h r 1 = A 1 := fA 1 (by omega)
  refine ⟨I1, fun c k hc => (fI c k (by omega)).trans (f0 c k (by omega)), ⟨(fun h hh => by rw [fI _ _ (by omega), fA _ (by omega)]; exact tw_rooms t0 hh), ?_, (fun h hh => by rw [fI _ _ (by omega), bes_c (fun k hk => fA k (by omega)) w0]; exact tw_beside t0 hh), (fun r hr => by rw [f1] at hr; rw [fI _ _ (by omega), fA _ (by omega)]; exact tw_truth t0 hr), ?_, (fun r hr => by rw [f1] at hr; rw [fI _ _ (by omega), fA _ (by omega)]; exact tw_told t0 hr), (fun r hr => by rw [f1] at hr; rw [fI _ _ (by omega), kpr_c (fun h hh => fA _ (by omega))]; exact tw_keepers t0 hr), (fun h hh => by rw [fI _ _ (by omega), fA _ (by omega)]; exact tw_pages t0 hh), (by rw [fI _ _ (by omega), fA _ (by omega)]; exact tw_written t0), (by rw [fI _ _ (by omega), fA _ (by omega)]; exact tw_roads t0), (by rw [fI _ _ (by omega), fA _ (by omega)]; exact tw_rumours t0), (by rw [fI _ _ (by omega), fA _ (by omega)]; exact tw_day t0), (by rw [fI _ _ (by omega), fA _ (by omega)]; exact tw_x t0), ?_, (by rw [fI _ _ (by omega), fA _ (by omega)]; exact tw_texts t0), (by rw [fI _ _ (by omega), fA _ (by omega)]; exact tw_ruling t0)⟩, fun Q => ?_⟩
  · intro j hj
    by_cases e : j = h
    · rw [e, eI, uI_n (by omega), uI_s, pyA, upA_n (by omega), upA_s]
    · rw [fI _ _ (by omega), fA _ (by omega)]
      exact tw_income t0 hj
  · intro j hj
    rw [f1] at hj
    by_cases e : j = r
    · rw [e, eI, uI_n (by omega), uI_n (by omega), uI_s, pyA, upA_n (by omega), upA_n (by omega), upA_s]
    · rw [fI _ _ (by omega), fA _ (by omega)]
      exact tw_purse t0 hj
  · rw [eI, uI_s, pyA, upA_s]
  · rw [eI]
    unfold pyI
    unfold pyS at hs ⊢
    by_cases c1 : A (28 + r) < g A h r
    · rw [if_pos c1]
      by_cases c2 : 9999 < A (20 + h) + A (28 + r)
      · rw [if_pos c2]
        rcases lw_or tx with ⟨a, e⟩ | e <;> rw [e] at q0 ⊢ <;> simp (disch := first | assumption | omega | decide) only [x3a_0, x3a_1, x3a_2r, x3a_2n, x3a_3, x3a_4, x3a_5, x3a_6r, x3a_6n, x3a_7, x3a_8, x3a_9, x3a_10, x3a_11, x3a_12, x3a_13, x3a_14, x3a_15, x3a_16, x3a_17, x3a_18, x3a_19, x3a_20, x3a_21, x3a_22, x3a_23, x3a_24, x3a_25, x3a_26, x3a_27, x3a_28, x3a_29, x3a_30, x3a_31, x3a_32, x3a_33, x3a_34, x3a_35, x3a_36, x3a_37, x3a_38, x3a_39, ↓reduceIte, Option.toList, List.nil_append, List.cons_append, nI_add, pk_mul, n_and, n_or, n_xor, nI_leI, nI_ltI, nI_eq, n_z, uI_s, uI_n, bI_n0, bI_n1, bT, bF, if_true, if_false, not_true, not_false_eq_true, pk_div, pk_rem, Nat.reduceEqDiff, Nat.reduceLeDiff, Nat.reduceLT, Nat.reduceAdd, Nat.reduceMul, Nat.reduceSub, Nat.not_lt_zero, Nat.zero_le, reduceCtorEq, ite_self, n_rem, and_self, and_true, true_and, and_false, false_and, q0, tw_purse t0 hr, tw_income t0 hh, tw_paid t0, c1, c2, n_sub (Nat.le_refl _), Nat.sub_self]
      · rw [if_neg c2]
        rcases lw_or tx with ⟨a, e⟩ | e <;> rw [e] at q0 ⊢ <;> simp (disch := first | assumption | omega | decide) only [x3a_0, x3a_1, x3a_2r, x3a_2n, x3a_3, x3a_4, x3a_5, x3a_6r, x3a_6n, x3a_7, x3a_8, x3a_9, x3a_10, x3a_11, x3a_12, x3a_13, x3a_14, x3a_15, x3a_16, x3a_17, x3a_18, x3a_19, x3a_20, x3a_21, x3a_22, x3a_23, x3a_24, x3a_25, x3a_26, x3a_27, x3a_28, x3a_29, x3a_30, x3a_31, x3a_32, x3a_33, x3a_34, x3a_35, x3a_36, x3a_37, x3a_38, x3a_39, ↓reduceIte, Option.toList, List.nil_append, List.cons_append, nI_add, pk_mul, n_and, n_or, n_xor, nI_leI, nI_ltI, nI_eq, n_z, uI_s, uI_n, bI_n0, bI_n1, bT, bF, if_true, if_false, not_true, not_false_eq_true, pk_div, pk_rem, Nat.reduceEqDiff, Nat.reduceLeDiff, Nat.reduceLT, Nat.reduceAdd, Nat.reduceMul, Nat.reduceSub, Nat.not_lt_zero, Nat.zero_le, reduceCtorEq, ite_self, n_rem, and_self, and_true, true_and, and_false, false_and, q0, tw_purse t0 hr, tw_income t0 hh, tw_paid t0, c1, c2, n_sub (Nat.le_refl _), Nat.sub_self]
    · rw [if_neg c1]
      have c3 : g A h r ≤ A (28 + r) := by omega
      by_cases c2 : 9999 < A (20 + h) + g A h r
      · rw [if_pos c2]
        rcases lw_or tx with ⟨a, e⟩ | e <;> rw [e] at q0 ⊢ <;> simp (disch := first | assumption | omega | decide) only [x3a_0, x3a_1, x3a_2r, x3a_2n, x3a_3, x3a_4, x3a_5, x3a_6r, x3a_6n, x3a_7, x3a_8, x3a_9, x3a_10, x3a_11, x3a_12, x3a_13, x3a_14, x3a_15, x3a_16, x3a_17, x3a_18, x3a_19, x3a_20, x3a_21, x3a_22, x3a_23, x3a_24, x3a_25, x3a_26, x3a_27, x3a_28, x3a_29, x3a_30, x3a_31, x3a_32, x3a_33, x3a_34, x3a_35, x3a_36, x3a_37, x3a_38, x3a_39, ↓reduceIte, Option.toList, List.nil_append, List.cons_append, nI_add, pk_mul, n_and, n_or, n_xor, nI_leI, nI_ltI, nI_eq, n_z, uI_s, uI_n, bI_n0, bI_n1, bT, bF, if_true, if_false, not_true, not_false_eq_true, pk_div, pk_rem, Nat.reduceEqDiff, Nat.reduceLeDiff, Nat.reduceLT, Nat.reduceAdd, Nat.reduceMul, Nat.reduceSub, Nat.not_lt_zero, Nat.zero_le, reduceCtorEq, ite_self, n_rem, and_self, and_true, true_and, and_false, false_and, q0, tw_purse t0 hr, tw_income t0 hh, tw_paid t0, c1, c2, n_sub c3]
      · rw [if_neg c2]
        rcases lw_or tx with ⟨a, e⟩ | e <;> rw [e] at q0 ⊢ <;> simp (disch := first | assumption | omega | decide) only [x3a_0, x3a_1, x3a_2r, x3a_2n, x3a_3, x3a_4, x3a_5, x3a_6r, x3a_6n, x3a_7, x3a_8, x3a_9, x3a_10, x3a_11, x3a_12, x3a_13, x3a_14, x3a_15, x3a_16, x3a_17, x3a_18, x3a_19, x3a_20, x3a_21, x3a_22, x3a_23, x3a_24, x3a_25, x3a_26, x3a_27, x3a_28, x3a_29, x3a_30, x3a_31, x3a_32, x3a_33, x3a_34, x3a_35, x3a_36, x3a_37, x3a_38, x3a_39, ↓reduceIte, Option.toList, List.nil_append, List.cons_append, nI_add, pk_mul, n_and, n_or, n_xor, nI_leI, nI_ltI, nI_eq, n_z, uI_s, uI_n, bI_n0, bI_n1, bT, bF, if_true, if_false, not_true, not_false_eq_true, pk_div, pk_rem, Nat.reduceEqDiff, Nat.reduceLeDiff, Nat.reduceLT, Nat.reduceAdd, Nat.reduceMul, Nat.reduceSub, Nat.not_lt_zero, Nat.zero_le, reduceCtorEq, ite_self, n_rem, and_self, and_true, true_and, and_false, false_and, q0, tw_purse t0 hr, tw_income t0 hh, tw_paid t0, c1, c2, n_sub c3]
theorem sp_payCb {h r : Nat} (hC : RntC M tx g) (w : Wf A) (hh : h < 8) (hr : r < A 1) (hg : g A h r ≤ 99) (t : Twn I 19 20 21 22 23 24 25 26 27 A) (eM : txI I = M) : ∃ I', (∀ c k, c ≠ 69 ∧ c ≠ 70 ∧ c ≠ 19 ∧ c ≠ 21 ∧ c ≠ 24 → I' c k = I c k) ∧ Twn I' 19 20 21 22 23 24 25 26 27 (pyA g A h r) ∧ ∀ Q, Rn sc (d + 5) 3 0 [some (.ref 71), some (.ref 19), some (LwC tx), some (.int (nI h)), some (.int (nI r)), none] [] (K0, I, J, R1 T) Q = Q none (K0, I', J, R1 T) := by
  have w0 : A 0 ≤ 12 := w.1.1
  have w1 : A 1 ≤ 4 := w.1.2.1
  have l1 : A (28 + r) ≤ 9999 := w.2.1.2.2.2.1 r (by omega)
  have l2 : A (20 + h) ≤ 9999 := w.2.1.2.1 h hh
  have l3 : A 10 < 1000000 := w.1.2.2.2.2.2.2.2.2.2.2.1
  have hs := pyS_l (g := g) (A := A) (h := h) (r := r)
  obtain ⟨p1, p2⟩ := hC sc d J T A I h r w hh hr eM
  obtain ⟨I0, f0, q0⟩ := p2 t
  have t0 : Twn I0 19 20 21 22 23 24 25 26 27 A := Twn_c t (fun c k hc => f0 c k (by omega)) (fun _ _ _ _ => rfl) ⟨w0, w1⟩
  obtain ⟨I1, eI⟩ : ∃ X, X = uI (uI (uI I0 24 r (nI (A (28 + r) - pyS g A h r))) 21 h (nI (pyI (A (20 + h) + pyS g A h r)))) 19 13 (nI (A 10 + pyS g A h r)) := ⟨_, rfl⟩
  have fI : ∀ c k, (c ≠ 24 ∨ k ≠ r) ∧ (c ≠ 21 ∨ k ≠ h) ∧ (c ≠ 19 ∨ k ≠ 13) → I1 c k = I0 c k := fun c k hk => by rw [eI, uI_n (by omega), uI_n (by omega), uI_n (by omega)]
  have fA : ∀ k, k ≠ 28 + r ∧ k ≠ 20 + h ∧ k ≠ 10 → pyA g A h r k = A k := fun k hk => py_o hk
  have f1 : pyA g A h r 1 = A 1 := fA 1 (by omega)
  refine ⟨I1, fun c k hc => (fI c k (by omega)).trans (f0 c k (by omega)), ⟨(fun h hh => by rw [fI _ _ (by omega), fA _ (by omega)]; exact tw_rooms t0 hh), ?_, (fun h hh => by rw [fI _ _ (by omega), bes_c (fun k hk => fA k (by omega)) w0]; exact tw_beside t0 hh), (fun r hr => by rw [f1] at hr; rw [fI _ _ (by omega), fA _ (by omega)]; exact tw_truth t0 hr), ?_, (fun r hr => by rw [f1] at hr; rw [fI _ _ (by omega), fA _ (by omega)]; exact tw_told t0 hr), (fun r hr => by rw [f1] at hr; rw [fI _ _ (by omega), kpr_c (fun h hh => fA _ (by omega))]; exact tw_keepers t0 hr), (fun h hh => by rw [fI _ _ (by omega), fA _ (by omega)]; exact tw_pages t0 hh), (by rw [fI _ _ (by omega), fA _ (by omega)]; exact tw_written t0), (by rw [fI _ _ (by omega), fA _ (by omega)]; exact tw_roads t0), (by rw [fI _ _ (by omega), fA _ (by omega)]; exact tw_rumours t0), (by rw [fI _ _ (by omega), fA _ (by omega)]; exact tw_day t0), (by rw [fI _ _ (by omega), fA _ (by omega)]; exact tw_x t0), ?_, (by rw [fI _ _ (by omega), fA _ (by omega)]; exact tw_texts t0), (by rw [fI _ _ (by omega), fA _ (by omega)]; exact tw_ruling t0)⟩, fun Q => ?_⟩
  · intro j hj
    by_cases e : j = h
    · rw [e, eI, uI_n (by omega), uI_s, pyA, upA_n (by omega), upA_s]
    · rw [fI _ _ (by omega), fA _ (by omega)]
      exact tw_income t0 hj
  · intro j hj
    rw [f1] at hj
    by_cases e : j = r
    · rw [e, eI, uI_n (by omega), uI_n (by omega), uI_s, pyA, upA_n (by omega), upA_n (by omega), upA_s]
    · rw [fI _ _ (by omega), fA _ (by omega)]
      exact tw_purse t0 hj
  · rw [eI, uI_s, pyA, upA_s]
  · rw [eI]
    unfold pyI
    unfold pyS at hs ⊢
    by_cases c1 : A (28 + r) < g A h r
    · rw [if_pos c1]
      by_cases c2 : 9999 < A (20 + h) + A (28 + r)
      · rw [if_pos c2]
        rcases lw_or tx with ⟨a, e⟩ | e <;> rw [e] at q0 ⊢ <;> simp (disch := first | assumption | omega | decide) only [x3b_0, x3b_1, x3b_2r, x3b_2n, x3b_3, x3b_4, x3b_5, x3b_6r, x3b_6n, x3b_7, x3b_8, x3b_9, x3b_10, x3b_11, x3b_12, x3b_13, x3b_14, x3b_15, x3b_16, x3b_17, x3b_18, x3b_19, x3b_20, x3b_21, x3b_22, x3b_23, x3b_24, x3b_25, x3b_26, x3b_27, x3b_28, x3b_29, x3b_30, x3b_31, x3b_32, x3b_33, x3b_34, x3b_35, x3b_36, x3b_37, x3b_38, x3b_39, ↓reduceIte, Option.toList, List.nil_append, List.cons_append, nI_add, pk_mul, n_and, n_or, n_xor, nI_leI, nI_ltI, nI_eq, n_z, uI_s, uI_n, bI_n0, bI_n1, bT, bF, if_true, if_false, not_true, not_false_eq_true, pk_div, pk_rem, Nat.reduceEqDiff, Nat.reduceLeDiff, Nat.reduceLT, Nat.reduceAdd, Nat.reduceMul, Nat.reduceSub, Nat.not_lt_zero, Nat.zero_le, reduceCtorEq, ite_self, n_rem, and_self, and_true, true_and, and_false, false_and, q0, tw_purse t0 hr, tw_income t0 hh, tw_paid t0, c1, c2, n_sub (Nat.le_refl _), Nat.sub_self]
      · rw [if_neg c2]
        rcases lw_or tx with ⟨a, e⟩ | e <;> rw [e] at q0 ⊢ <;> simp (disch := first | assumption | omega | decide) only [x3b_0, x3b_1, x3b_2r, x3b_2n, x3b_3, x3b_4, x3b_5, x3b_6r, x3b_6n, x3b_7, x3b_8, x3b_9, x3b_10, x3b_11, x3b_12, x3b_13, x3b_14, x3b_15, x3b_16, x3b_17, x3b_18, x3b_19, x3b_20, x3b_21, x3b_22, x3b_23, x3b_24, x3b_25, x3b_26, x3b_27, x3b_28, x3b_29, x3b_30, x3b_31, x3b_32, x3b_33, x3b_34, x3b_35, x3b_36, x3b_37, x3b_38, x3b_39, ↓reduceIte, Option.toList, List.nil_append, List.cons_append, nI_add, pk_mul, n_and, n_or, n_xor, nI_leI, nI_ltI, nI_eq, n_z, uI_s, uI_n, bI_n0, bI_n1, bT, bF, if_true, if_false, not_true, not_false_eq_true, pk_div, pk_rem, Nat.reduceEqDiff, Nat.reduceLeDiff, Nat.reduceLT, Nat.reduceAdd, Nat.reduceMul, Nat.reduceSub, Nat.not_lt_zero, Nat.zero_le, reduceCtorEq, ite_self, n_rem, and_self, and_true, true_and, and_false, false_and, q0, tw_purse t0 hr, tw_income t0 hh, tw_paid t0, c1, c2, n_sub (Nat.le_refl _), Nat.sub_self]
    · rw [if_neg c1]
      have c3 : g A h r ≤ A (28 + r) := by omega
      by_cases c2 : 9999 < A (20 + h) + g A h r
      · rw [if_pos c2]
        rcases lw_or tx with ⟨a, e⟩ | e <;> rw [e] at q0 ⊢ <;> simp (disch := first | assumption | omega | decide) only [x3b_0, x3b_1, x3b_2r, x3b_2n, x3b_3, x3b_4, x3b_5, x3b_6r, x3b_6n, x3b_7, x3b_8, x3b_9, x3b_10, x3b_11, x3b_12, x3b_13, x3b_14, x3b_15, x3b_16, x3b_17, x3b_18, x3b_19, x3b_20, x3b_21, x3b_22, x3b_23, x3b_24, x3b_25, x3b_26, x3b_27, x3b_28, x3b_29, x3b_30, x3b_31, x3b_32, x3b_33, x3b_34, x3b_35, x3b_36, x3b_37, x3b_38, x3b_39, ↓reduceIte, Option.toList, List.nil_append, List.cons_append, nI_add, pk_mul, n_and, n_or, n_xor, nI_leI, nI_ltI, nI_eq, n_z, uI_s, uI_n, bI_n0, bI_n1, bT, bF, if_true, if_false, not_true, not_false_eq_true, pk_div, pk_rem, Nat.reduceEqDiff, Nat.reduceLeDiff, Nat.reduceLT, Nat.reduceAdd, Nat.reduceMul, Nat.reduceSub, Nat.not_lt_zero, Nat.zero_le, reduceCtorEq, ite_self, n_rem, and_self, and_true, true_and, and_false, false_and, q0, tw_purse t0 hr, tw_income t0 hh, tw_paid t0, c1, c2, n_sub c3]
      · rw [if_neg c2]
        rcases lw_or tx with ⟨a, e⟩ | e <;> rw [e] at q0 ⊢ <;> simp (disch := first | assumption | omega | decide) only [x3b_0, x3b_1, x3b_2r, x3b_2n, x3b_3, x3b_4, x3b_5, x3b_6r, x3b_6n, x3b_7, x3b_8, x3b_9, x3b_10, x3b_11, x3b_12, x3b_13, x3b_14, x3b_15, x3b_16, x3b_17, x3b_18, x3b_19, x3b_20, x3b_21, x3b_22, x3b_23, x3b_24, x3b_25, x3b_26, x3b_27, x3b_28, x3b_29, x3b_30, x3b_31, x3b_32, x3b_33, x3b_34, x3b_35, x3b_36, x3b_37, x3b_38, x3b_39, ↓reduceIte, Option.toList, List.nil_append, List.cons_append, nI_add, pk_mul, n_and, n_or, n_xor, nI_leI, nI_ltI, nI_eq, n_z, uI_s, uI_n, bI_n0, bI_n1, bT, bF, if_true, if_false, not_true, not_false_eq_true, pk_div, pk_rem, Nat.reduceEqDiff, Nat.reduceLeDiff, Nat.reduceLT, Nat.reduceAdd, Nat.reduceMul, Nat.reduceSub, Nat.not_lt_zero, Nat.zero_le, reduceCtorEq, ite_self, n_rem, and_self, and_true, true_and, and_false, false_and, q0, tw_purse t0 hr, tw_income t0 hh, tw_paid t0, c1, c2, n_sub c3]
theorem sp_held9 {n : Nat} {Q : Option Value → Mm → Prop} (hn : n < 2 ^ 31) : Rn sc d 170 0 [some (.long (nI n).toInt64), none, some (.int (nI 0)), some (.int (nI 9999))] [] (K0, I, J, R1 T) Q = Q (some (.int (nI (pyI n)))) (K0, I, J, R1 T) := by
  have h1 : (nI 0).toInt64 ≤ (nI n).toInt64 := Int32.toInt64_le.mpr ((nI_leI (by decide) hn).mpr (Nat.zero_le _))
  unfold pyI
  by_cases c : 9999 < n
  · have h2 : ¬ (nI n).toInt64 ≤ (nI 9999).toInt64 := fun h => by
      have := (nI_leI hn (by decide)).mp (Int32.toInt64_le.mp h)
      omega
    rw [if_pos c]
    simp (disch := first | assumption | omega | decide) only [x170_0, x170_1, x170_2, x170_3, x170_4, x170_5, x170_6, x170_7, x170_8, x170_9, x170_10, x170_11, x170_12, x170_13, x170_14, x170_15, x170_16, j_ge, j_le, h1, h2, ↓reduceIte]
  · have h2 : (nI n).toInt64 ≤ (nI 9999).toInt64 := Int32.toInt64_le.mpr ((nI_leI hn (by decide)).mpr (by omega))
    rw [if_neg c]
    simp (disch := first | assumption | omega | decide) only [x170_0, x170_1, x170_2, x170_3, x170_4, x170_5, x170_6, x170_7, x170_8, x170_9, x170_10, x170_11, x170_12, x170_13, x170_14, x170_15, x170_16, j_ge, j_le, h1, h2, ↓reduceIte, lg_l2i_i2l]
theorem sp_payM {h r : Nat} (hM : RntM M tx g) (w : Wf A) (hh : h < 8) (hr : r < A 1) (hg : g A h r ≤ 99) (m : AtM I 90 A) (eM : txI I = M) (e3 : A 3 = tx) : ∃ I' J', (∀ c k, c ≠ 90 ∧ c ≠ 95 ∧ c ≠ 97 → I' c k = I c k) ∧ AtM I' 90 (pyA g A h r) ∧ ∀ Q, Rn sc (d + 6) 239 0 [some (.ref 89), some (.int (nI h)), some (.int (nI r)), none, none] [] (K0, I, J, R1 T) Q = Q none (K0, I', J', R1 T) := by
  have m' : ∀ k, k < 1799 → I 90 k = nI (A k) := m
  have w1 : A 1 ≤ 4 := w.1.2.1
  have l1 : A (28 + r) ≤ 9999 := w.2.1.2.2.2.1 r (by omega)
  have l2 : A (20 + h) ≤ 9999 := w.2.1.2.1 h hh
  have l3 : A 10 < 1000000 := w.1.2.2.2.2.2.2.2.2.2.2.1
  have hs := pyS_l (g := g) (A := A) (h := h) (r := r)
  obtain ⟨I0, J0, f0, q0⟩ := hM sc d J T A I h r w hh hr eM m
  have a0 : AtM I0 90 A := AtM_c m (fun k => f0 _ _ (by omega))
  have m0 : ∀ k, k < 1799 → I0 90 k = nI (A k) := a0
  refine ⟨uI (uI (uI I0 90 (28 + r) (nI (A (28 + r) - pyS g A h r))) 90 (20 + h) (nI (pyI (A (20 + h) + pyS g A h r)))) 90 10 (nI (A 10 + pyS g A h r)), J0, fun c k hc => ?_, AtM_u (AtM_u (AtM_u a0)), fun Q => ?_⟩
  · rw [uI_n (by omega), uI_n (by omega), uI_n (by omega)]
    exact f0 c k (by omega)
  · unfold pyS at hs ⊢
    by_cases c1 : g A h r < A (28 + r)
    · have c2 : ¬ A (28 + r) < g A h r := by omega
      have c3 : ¬ A (28 + r) ≤ g A h r := by omega
      rw [if_neg c2]
      simp (disch := first | assumption | omega | decide) only [x239_0, x239_1, x239_2, x239_3, x239_4, x239_5, x239_6, x239_7, x239_8, x239_9, x239_10, x239_11, x239_12, x239_13, x239_14, x239_15, x239_16, x239_17, x239_18, x239_19, x239_20, x239_21, x239_22, x239_23, x239_24, x239_25, x239_26, x239_27, x239_28, x239_29, x239_30, x239_31, x239_32, x239_33, x239_34, x239_35, x239_36, x239_37, x239_38, x239_39, x239_40, x239_41, x239_42, x239_43, x239_44, x239_45, x239_46, x239_47, x239_48, x239_49, x239_50, x239_51, x239_52, x239_53, x239_54, x239_55, x239_56, x239_57, x239_58, x239_59, x239_60, x239_61, x239_62, ↓reduceIte, Option.toList, List.nil_append, List.cons_append, nI_add, pk_mul, n_and, n_or, n_xor, nI_leI, nI_ltI, nI_eq, n_z, uI_s, uI_n, bI_n0, bI_n1, bT, bF, if_true, if_false, not_true, not_false_eq_true, pk_div, pk_rem, Nat.reduceEqDiff, Nat.reduceLeDiff, Nat.reduceLT, Nat.reduceAdd, Nat.reduceMul, Nat.reduceSub, Nat.not_lt_zero, Nat.zero_le, reduceCtorEq, ite_self, n_rem, and_self, and_true, true_and, and_false, false_and, m', e3, q0, m0, c3, n_sub (Nat.le_of_lt c1), sp_held9]
    · have c3 : A (28 + r) ≤ g A h r := by omega
      have c4 : (if A (28 + r) < g A h r then A (28 + r) else g A h r) = A (28 + r) := by
        split <;> omega
      rw [c4]
      simp (disch := first | assumption | omega | decide) only [x239_0, x239_1, x239_2, x239_3, x239_4, x239_5, x239_6, x239_7, x239_8, x239_9, x239_10, x239_11, x239_12, x239_13, x239_14, x239_15, x239_16, x239_17, x239_18, x239_19, x239_20, x239_21, x239_22, x239_23, x239_24, x239_25, x239_26, x239_27, x239_28, x239_29, x239_30, x239_31, x239_32, x239_33, x239_34, x239_35, x239_36, x239_37, x239_38, x239_39, x239_40, x239_41, x239_42, x239_43, x239_44, x239_45, x239_46, x239_47, x239_48, x239_49, x239_50, x239_51, x239_52, x239_53, x239_54, x239_55, x239_56, x239_57, x239_58, x239_59, x239_60, x239_61, x239_62, ↓reduceIte, Option.toList, List.nil_append, List.cons_append, nI_add, pk_mul, n_and, n_or, n_xor, nI_leI, nI_ltI, nI_eq, n_z, uI_s, uI_n, bI_n0, bI_n1, bT, bF, if_true, if_false, not_true, not_false_eq_true, pk_div, pk_rem, Nat.reduceEqDiff, Nat.reduceLeDiff, Nat.reduceLT, Nat.reduceAdd, Nat.reduceMul, Nat.reduceSub, Nat.not_lt_zero, Nat.zero_le, reduceCtorEq, ite_self, n_rem, and_self, and_true, true_and, and_false, false_and, m', e3, q0, m0, c3, n_sub (Nat.le_refl _), Nat.sub_self, sp_held9]
end Pay
