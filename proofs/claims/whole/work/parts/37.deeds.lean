/-! keeping, forgetting, writing into the book; hush and gift -/
def clr (x r : Nat) : Nat := x ^^^ (x &&& 2 ^ r)
def fgA (A : Nat → Nat) (h r : Nat) : Nat → Nat := upA A (12 + h) (clr (A (12 + h)) r)
def tkA (A : Nat → Nat) (h r : Nat) : Nat → Nat := upA A (12 + h) (A (12 + h) ||| 2 ^ r)
def wn (A : Nat → Nat) : Nat := if A 11 = 30 then 29 else A 11
def wrA (A : Nat → Nat) (h r : Nat) : Nat → Nat := fun k => if k = 11 then wn A + 1 else if k = 1769 + wn A then (A 8 * 8 + h) * 4 + r else if (1769 ≤ k ∧ k < 1769 + wn A) ∧ A 11 = 30 then A (k + 1) else A k
def tlA (A : Nat → Nat) (h r : Nat) : Nat → Nat := wrA (tkA A h r) h r
theorem wn_lt {A : Nat → Nat} (w : A 11 ≤ 30) : wn A < 30 := by
  unfold wn
  split <;> omega
theorem clr_bit {x r i : Nat} : (clr x r).testBit i = (x.testBit i && !decide (r = i)) := by
  unfold clr
  rw [Nat.testBit_xor, Nat.testBit_and, Nat.testBit_two_pow]
  cases x.testBit i <;> cases decide (r = i) <;> rfl
theorem clr_t {x r : Nat} (h : x / 2 ^ r % 2 = 1) : clr x r = x ^^^ 2 ^ r := by
  apply Nat.eq_of_testBit_eq
  intro i
  rw [clr_bit, Nat.testBit_xor, Nat.testBit_two_pow]
  by_cases e : r = i
  · subst e
    rw [tb_t h]
    simp
  · rw [decide_eq_false e]
    simp
theorem clr_f {x r : Nat} (h : ¬ x / 2 ^ r % 2 = 1) : clr x r = x := by
  apply Nat.eq_of_testBit_eq
  intro i
  rw [clr_bit]
  by_cases e : r = i
  · subst e
    rw [tb_f h]
    simp
  · rw [decide_eq_false e]
    simp
theorem clr_lt {x r n : Nat} (hx : x < 2 ^ n) (hr : r < n) : clr x r < 2 ^ n :=
  Nat.xor_lt_two_pow hx (Nat.and_lt_two_pow _ (Nat.pow_lt_pow_right (by decide) hr))
theorem kpr_up {A : Nat → Nat} {h r v g : Nat} (hh : h < 8) : (kpr (upA A (12 + h) v) r).testBit g = if g = h then v.testBit r else (kpr A r).testBit g := by
  rw [kpr, kp_bit, kpr, kp_bit]
  by_cases e : g = h
  · rw [if_pos e, e, upA_s, decide_eq_true hh, Bool.true_and]
  · rw [if_neg e, upA_n (by omega)]
theorem kpr_tk {A : Nat → Nat} {h r : Nat} (hh : h < 8) : kpr (tkA A h r) r = kpr A r ||| 2 ^ h := by
  apply Nat.eq_of_testBit_eq
  intro g
  rw [tkA, kpr_up hh, Nat.testBit_or, Nat.testBit_or, Nat.testBit_two_pow, Nat.testBit_two_pow]
  by_cases e : g = h
  · subst e
    simp
  · rw [if_neg e, decide_eq_false (fun h => e h.symm), Bool.or_false]
theorem kpr_tk' {A : Nat → Nat} {h r s : Nat} (hh : h < 8) (hs : s ≠ r) : kpr (tkA A h r) s = kpr A s := by
  apply Nat.eq_of_testBit_eq
  intro g
  rw [tkA, kpr_up hh, Nat.testBit_or, Nat.testBit_two_pow]
  by_cases e : g = h
  · rw [if_pos e, decide_eq_false (fun h => hs h.symm), Bool.or_false, e, kpr, kp_bit, decide_eq_true hh, Bool.true_and]
  · rw [if_neg e]
theorem kpr_fg {A : Nat → Nat} {h r : Nat} (hh : h < 8) : kpr (fgA A h r) r = kpr A r &&& (2 ^ h ^^^ 4294967295) := by
  apply Nat.eq_of_testBit_eq
  intro g
  rw [fgA, kpr_up hh, clr_bit, Nat.testBit_and, Nat.testBit_xor, Nat.testBit_two_pow, show 4294967295 = 2 ^ 32 - 1 from rfl, Nat.testBit_two_pow_sub_one]
  by_cases e : g = h
  · subst e
    rw [if_pos rfl, decide_eq_true (show g < 32 by omega)]
    simp
  · rw [if_neg e, decide_eq_false (fun h => e h.symm), Bool.false_xor]
    by_cases hg : g < 32
    · rw [decide_eq_true hg, Bool.and_true]
    · rw [kpr, kp_bit, decide_eq_false (show ¬ g < 8 by omega)]
      simp
theorem kpr_fg' {A : Nat → Nat} {h r s : Nat} (hh : h < 8) (hs : s ≠ r) : kpr (fgA A h r) s = kpr A s := by
  apply Nat.eq_of_testBit_eq
  intro g
  rw [fgA, kpr_up hh, clr_bit]
  by_cases e : g = h
  · rw [if_pos e, decide_eq_false (fun h => hs h.symm), Bool.not_false, Bool.and_true, e, kpr, kp_bit, decide_eq_true hh, Bool.true_and]
  · rw [if_neg e]
theorem kp_W {A : Nat → Nat} {h v : Nat} (w : Wf A) (hh : h < 8) (hv : v < 2 ^ A 1) : Wf (upA A (12 + h) v) := by
  have wA := w
  obtain ⟨A', eA⟩ : ∃ X, X = upA A (12 + h) v := ⟨_, rfl⟩
  have fA : ∀ k, k ≠ 12 + h → A' k = A k := fun k hk => by rw [eA]; exact upA_n hk
  rw [← eA]
  refine ⟨(Wf1_c (fun k hk => fA k (by omega)) wA.1), ?_, (Wf3_c (fun k hk => fA k (by omega)) wA.1.1 wA.2.2.1), (Wf4_c (fun k hk => fA k (by omega)) wA.1 wA.2.2.2.1), (Wf5_c (fun k hk => fA k (by omega)) wA.1.2.2.2.2.1 wA.2.2.2.2)⟩
  obtain ⟨v1, v2, v3, v4, v5, v6, v7⟩ := wA.2.1
  refine ⟨?_, ?_, ?_, ?_, ?_, ?_, ?_⟩
  · intro j hj
    rw [fA 1 (by omega)]
    by_cases e : j = h
    · rw [eA, upA_e (by omega)]; exact hv
    · rw [fA _ (by omega)]; exact v1 j hj
  · intro j hj; rw [fA _ (by omega)]; exact v2 j hj
  · intro j hj; rw [fA _ (by omega)]; exact v3 j hj
  · intro j hj; rw [fA _ (by omega)]; exact v4 j hj
  · intro j hj; rw [fA _ (by omega)]; exact v5 j hj
  · intro j hj; rw [fA _ (by omega)]; exact v6 j hj
  · intro j hj; rw [fA _ (by omega)]; exact v7 j hj
theorem tk_W {A : Nat → Nat} {h r : Nat} (w : Wf A) (hh : h < 8) (hr : r < A 1) : Wf (tkA A h r) := kp_W w hh (Nat.or_lt_two_pow (w.2.1.1 h hh) (Nat.pow_lt_pow_right (by decide) hr))
theorem fg_W {A : Nat → Nat} {h r : Nat} (w : Wf A) (hh : h < 8) (hr : r < A 1) : Wf (fgA A h r) := kp_W w hh (clr_lt (w.2.1.1 h hh) hr)
theorem wr_o {A : Nat → Nat} {h r k : Nat} (hk : k ≠ 11 ∧ k < 1769) : wrA A h r k = A k := by
  unfold wrA
  rw [if_neg hk.1, if_neg (by omega), if_neg (by omega)]
theorem wr_W {A : Nat → Nat} {h r : Nat} (w : Wf A) (hh : h < 8) (hr : r < A 1) : Wf (wrA A h r) := by
  have wA := w
  have w11 : A 11 ≤ 30 := w.1.2.2.2.2.2.2.2.2.2.2.2
  have w8 : A 8 ≤ 9999 := w.1.2.2.2.2.2.2.2.2.1
  have w1 : A 1 ≤ 4 := w.1.2.1
  have hn := wn_lt w11
  have fA : ∀ k, k ≠ 11 ∧ k < 1769 → wrA A h r k = A k := fun k hk => wr_o hk
  refine ⟨?_, ?_, (Wf3_c (fun k hk => fA k (by omega)) wA.1.1 wA.2.2.1), (Wf4_c (fun k hk => fA k (by omega)) wA.1 wA.2.2.2.1), (Wf5_c (fun k hk => fA k (by omega)) wA.1.2.2.2.2.1 wA.2.2.2.2)⟩
  · obtain ⟨v0, v1, v2, v3, v4, v5, v6, v7, v8, v9, v10, v11⟩ := w.1
    unfold Wf1
    rw [fA 0 (by omega), fA 1 (by omega), fA 2 (by omega), fA 3 (by omega), fA 4 (by omega), fA 5 (by omega), fA 6 (by omega), fA 7 (by omega), fA 8 (by omega), fA 9 (by omega), fA 10 (by omega), show wrA A h r 11 = wn A + 1 from if_pos rfl]
    exact ⟨v0, v1, v2, v3, v4, v5, v6, v7, v8, v9, v10, by omega⟩
  · obtain ⟨v1, v2, v3, v4, v5, v6, v7⟩ := wA.2.1
    refine ⟨?_, ?_, ?_, ?_, ?_, ?_, ?_⟩
    · intro j hj; rw [fA _ (by omega), fA 1 (by omega)]; exact v1 j hj
    · intro j hj; rw [fA _ (by omega)]; exact v2 j hj
    · intro j hj; rw [fA _ (by omega)]; exact v3 j hj
    · intro j hj; rw [fA _ (by omega)]; exact v4 j hj
    · intro j hj; rw [fA _ (by omega)]; exact v5 j hj
    · intro j hj; rw [fA _ (by omega)]; exact v6 j hj
    · intro j hj
      unfold wrA
      rw [if_neg (by omega)]
      by_cases c1 : 1769 + j = 1769 + wn A
      · rw [if_pos c1]; omega
      · rw [if_neg c1]
        by_cases c2 : (1769 ≤ 1769 + j ∧ 1769 + j < 1769 + wn A) ∧ A 11 = 30
        · rw [if_pos c2]; exact v7 (j + 1) (by omega)
        · rw [if_neg c2]; exact v7 j hj
theorem tl_W {A : Nat → Nat} {h r : Nat} (w : Wf A) (hh : h < 8) (hr : r < A 1) : Wf (tlA A h r) := wr_W (tk_W w hh hr) hh (by rw [tkA, upA_n (by omega)]; exact hr)
theorem tk_o {A : Nat → Nat} {h r k : Nat} (hk : k ≠ 12 + h) : tkA A h r k = A k := upA_n hk
theorem tl_o {A : Nat → Nat} {h r k : Nat} (hk : k ≠ 11 ∧ k < 1769 ∧ k ≠ 12 + h) : tlA A h r k = A k := (wr_o (by omega)).trans (tk_o hk.2.2)
theorem tl_k {A : Nat → Nat} {h r s : Nat} : kpr (tlA A h r) s = kpr (tkA A h r) s := kpr_c (fun g hg => wr_o (by omega))
theorem tk_wn {A : Nat → Nat} {h r : Nat} : wn (tkA A h r) = wn A := by
  unfold wn
  rw [tk_o (by omega)]
section Deeds
variable {TX : (Nat → Nat → Int32) → Nat → Prop} {sc : Sc} {d : Nat} {I : Nat → Nat → Int32} {J : Nat → Nat → Int64} {T : Option Nat} {A : Nat → Nat}
theorem sp_forgetTa {h r : Nat} (w : Wf A) (hh : h < 8) (hr : r < A 1) (t : Twn I 1 2 3 4 5 6 7 8 9 A) : ∃ I', (∀ c k, c ≠ 8 → I' c k = I c k) ∧ (Twn I' 1 2 3 4 5 6 7 8 9 (fgA A h r)) ∧ ∀ Q, Rn sc d 102 0 [some (.ref 1), some (.int (nI h)), some (.int (nI r))] [] (K0, I, J, R1 T) Q = Q none (K0, I', J, R1 T) := by
  have w0 : A 0 ≤ 12 := w.1.1
  have w1 : A 1 ≤ 4 := w.1.2.1
  obtain ⟨I1, eI⟩ : ∃ X, X = uI I 8 r (nI (kpr A r &&& (2 ^ h ^^^ 4294967295))) := ⟨_, rfl⟩
  have fI : ∀ c k, c ≠ 8 ∨ k ≠ r → I1 c k = I c k := fun c k hk => by rw [eI]; exact uI_n hk
  have fA : ∀ k, k ≠ 12 + h → fgA A h r k = A k := fun k hk => upA_n hk
  have f1 : fgA A h r 1 = A 1 := fA 1 (by omega)
  refine ⟨I1, fun c k hc => fI c k (by omega), ⟨(fun h hh => by rw [fI _ _ (by omega), fA _ (by omega)]; exact tw_rooms t hh), (fun h hh => by rw [fI _ _ (by omega), fA _ (by omega)]; exact tw_income t hh), (fun h hh => by rw [fI _ _ (by omega), bes_c (fun k hk => fA k (by omega)) w0]; exact tw_beside t hh), (fun r hr => by rw [f1] at hr; rw [fI _ _ (by omega), fA _ (by omega)]; exact tw_truth t hr), (fun r hr => by rw [f1] at hr; rw [fI _ _ (by omega), fA _ (by omega)]; exact tw_purse t hr), (fun r hr => by rw [f1] at hr; rw [fI _ _ (by omega), fA _ (by omega)]; exact tw_told t hr), ?_, (fun h hh => by rw [fI _ _ (by omega), fA _ (by omega)]; exact tw_pages t hh), (by rw [fI _ _ (by omega), fA _ (by omega)]; exact tw_written t), (by rw [fI _ _ (by omega), fA _ (by omega)]; exact tw_roads t), (by rw [fI _ _ (by omega), fA _ (by omega)]; exact tw_rumours t), (by rw [fI _ _ (by omega), fA _ (by omega)]; exact tw_day t), (by rw [fI _ _ (by omega), fA _ (by omega)]; exact tw_x t), (by rw [fI _ _ (by omega), fA _ (by omega)]; exact tw_paid t), (by rw [fI _ _ (by omega), fA _ (by omega)]; exact tw_texts t), (by rw [fI _ _ (by omega), fA _ (by omega)]; exact tw_ruling t)⟩, fun Q => ?_⟩
  · intro s hs
    rw [f1] at hs
    by_cases e : s = r
    · rw [e, eI, uI_s, kpr_fg hh]
    · rw [fI _ _ (by omega), kpr_fg' hh e]
      exact tw_keepers t hs
  · rw [eI]
    simp (disch := first | assumption | omega | decide) only [x102a_0, x102a_1, x102a_2, x102a_3, x102a_4, x102a_5, x102a_6, x102a_7, x102a_8, x102a_9, x102a_10, x102a_11, x102a_12, ↓reduceIte, Option.toList, List.nil_append, List.cons_append, nI_add, pk_mul, n_and, n_or, n_xor, nI_leI, nI_ltI, nI_eq, n_z, uI_s, uI_n, bI_n0, bI_n1, bT, bF, if_true, if_false, not_true, not_false_eq_true, pk_div, pk_rem, Nat.reduceEqDiff, Nat.reduceLeDiff, Nat.reduceLT, Nat.reduceAdd, Nat.reduceMul, Nat.reduceSub, Nat.not_lt_zero, Nat.zero_le, reduceCtorEq, ite_self, n_rem, and_self, and_true, true_and, and_false, false_and, tw_keepers t hr, n_one, n_m1, n_xor, n_and]
theorem sp_keepTa {h r : Nat} (w : Wf A) (hh : h < 8) (hr : r < A 1) (t : Twn I 1 2 3 4 5 6 7 8 9 A) : ∃ I', (∀ c k, c ≠ 1 ∧ c ≠ 8 ∧ c ≠ 9 → I' c k = I c k) ∧ (Twn I' 1 2 3 4 5 6 7 8 9 (tlA A h r)) ∧ ∀ Q, Rn sc d 101 0 [some (.ref 1), some (.int (nI h)), some (.int (nI r))] [] (K0, I, J, R1 T) Q = Q none (K0, I', J, R1 T) := by
  have w0 : A 0 ≤ 12 := w.1.1
  have w1 : A 1 ≤ 4 := w.1.2.1
  have w11 : A 11 ≤ 30 := w.1.2.2.2.2.2.2.2.2.2.2.2
  have hn := wn_lt w11
  have fA : ∀ k, k ≠ 11 ∧ k < 1769 ∧ k ≠ 12 + h → tlA A h r k = A k := fun k hk => tl_o hk
  have f1 : tlA A h r 1 = A 1 := fA 1 (by omega)
  have f11 : tlA A h r 11 = wn A + 1 := by
    unfold tlA wrA
    rw [if_pos rfl, tk_wn]
  have ek : ∀ s, s < A 1 → s ≠ r → kpr (tlA A h r) s = kpr A s := fun s _ e => by rw [tl_k, kpr_tk' hh e]
  have er : kpr (tlA A h r) r = kpr A r ||| 2 ^ h := by rw [tl_k, kpr_tk hh]
  by_cases h30 : A 11 = 30
  · have ew : wn A = 29 := if_pos h30
    obtain ⟨I1, eI⟩ : ∃ X, X = uI (uI (uI (uC (uI I 8 r (nI (kpr A r ||| 2 ^ h))) 9 9 1 0 29) 1 8 (nI 29)) 9 29 (nI ((A 8 * 8 + h) * 4 + r))) 1 8 (nI 30) := ⟨_, rfl⟩
    have fI : ∀ c k, (c ≠ 8 ∨ k ≠ r) ∧ c ≠ 9 ∧ (c ≠ 1 ∨ k ≠ 8) → I1 c k = I c k := fun c k hk => by rw [eI, uI_n (by omega), uI_n (by omega), uI_n (by omega), uC_n (by omega), uI_n (by omega)]
    refine ⟨I1, fun c k hc => fI c k (by omega), ⟨(fun h hh => by rw [fI _ _ (by omega), fA _ (by omega)]; exact tw_rooms t hh), (fun h hh => by rw [fI _ _ (by omega), fA _ (by omega)]; exact tw_income t hh), (fun h hh => by rw [fI _ _ (by omega), bes_c (fun k hk => fA k (by omega)) w0]; exact tw_beside t hh), (fun r hr => by rw [f1] at hr; rw [fI _ _ (by omega), fA _ (by omega)]; exact tw_truth t hr), (fun r hr => by rw [f1] at hr; rw [fI _ _ (by omega), fA _ (by omega)]; exact tw_purse t hr), (fun r hr => by rw [f1] at hr; rw [fI _ _ (by omega), fA _ (by omega)]; exact tw_told t hr), ?_, ?_, ?_, (by rw [fI _ _ (by omega), fA _ (by omega)]; exact tw_roads t), (by rw [fI _ _ (by omega), fA _ (by omega)]; exact tw_rumours t), (by rw [fI _ _ (by omega), fA _ (by omega)]; exact tw_day t), (by rw [fI _ _ (by omega), fA _ (by omega)]; exact tw_x t), (by rw [fI _ _ (by omega), fA _ (by omega)]; exact tw_paid t), (by rw [fI _ _ (by omega), fA _ (by omega)]; exact tw_texts t), (by rw [fI _ _ (by omega), fA _ (by omega)]; exact tw_ruling t)⟩, fun Q => ?_⟩
    · intro s hs
      rw [f1] at hs
      by_cases e : s = r
      · rw [e, er, eI, uI_n (by omega), uI_n (by omega), uI_n (by omega), uC_n (by omega), uI_s]
      · rw [fI _ _ (by omega), ek s hs e]
        exact tw_keepers t hs
    · intro i hi
      unfold tlA wrA
      rw [tk_wn, ew, if_neg (by omega), tk_o (show 8 ≠ 12 + h by omega), tk_o (show 11 ≠ 12 + h by omega), eI, uI_n (by omega)]
      by_cases c1 : i = 29
      · rw [if_pos (by omega), uI_e c1]
      · rw [if_neg (by omega), if_pos (by omega), uI_n (by omega), uI_n (by omega), uC_i (by omega), uI_n (by omega), tk_o (by omega), tw_pages t (by omega)]
        congr 2
        omega
    · rw [f11, ew, eI, uI_s]
    · rw [eI]
      simp (disch := first | assumption | omega | decide) only [x101a_0, x101a_1, x101a_2, x101a_3, x101a_4, x101a_5, x101a_6, x101a_7, x101a_8, x101a_9, x101a_10, x101a_11, x101a_12, x101a_13, x101a_14, x101a_15, x101a_16, x101a_17, x101a_18, x101a_19, x101a_20, x101a_21, x101a_22, x101a_23, x101a_24, x101a_25, x101a_26, x101a_27, x101a_28, x101a_29, x101a_30, x101a_31, x101a_32, x101a_33, x101a_34, x101a_35, x101a_36, x101a_37, x101a_38, x101a_39, x101a_40, x101a_41, x101a_42, x101a_43, x101a_44, x101a_45, x101a_46, ↓reduceIte, Option.toList, List.nil_append, List.cons_append, nI_add, pk_mul, n_and, n_or, n_xor, nI_leI, nI_ltI, nI_eq, n_z, uI_s, uI_n, bI_n0, bI_n1, bT, bF, if_true, if_false, not_true, not_false_eq_true, pk_div, pk_rem, Nat.reduceEqDiff, Nat.reduceLeDiff, Nat.reduceLT, Nat.reduceAdd, Nat.reduceMul, Nat.reduceSub, Nat.not_lt_zero, Nat.zero_le, reduceCtorEq, ite_self, n_rem, and_self, and_true, true_and, and_false, false_and, tw_keepers t hr, n_one, uC_n, tw_written t, h30, tw_day t]
  · have ew : wn A = A 11 := if_neg h30
    have h31 : A 11 < 30 := by omega
    obtain ⟨I1, eI⟩ : ∃ X, X = uI (uI (uI I 8 r (nI (kpr A r ||| 2 ^ h))) 9 (A 11) (nI ((A 8 * 8 + h) * 4 + r))) 1 8 (nI (A 11 + 1)) := ⟨_, rfl⟩
    have fI : ∀ c k, (c ≠ 8 ∨ k ≠ r) ∧ (c ≠ 9 ∨ k ≠ A 11) ∧ (c ≠ 1 ∨ k ≠ 8) → I1 c k = I c k := fun c k hk => by rw [eI, uI_n (by omega), uI_n (by omega), uI_n (by omega)]
    refine ⟨I1, fun c k hc => fI c k (by omega), ⟨(fun h hh => by rw [fI _ _ (by omega), fA _ (by omega)]; exact tw_rooms t hh), (fun h hh => by rw [fI _ _ (by omega), fA _ (by omega)]; exact tw_income t hh), (fun h hh => by rw [fI _ _ (by omega), bes_c (fun k hk => fA k (by omega)) w0]; exact tw_beside t hh), (fun r hr => by rw [f1] at hr; rw [fI _ _ (by omega), fA _ (by omega)]; exact tw_truth t hr), (fun r hr => by rw [f1] at hr; rw [fI _ _ (by omega), fA _ (by omega)]; exact tw_purse t hr), (fun r hr => by rw [f1] at hr; rw [fI _ _ (by omega), fA _ (by omega)]; exact tw_told t hr), ?_, ?_, ?_, (by rw [fI _ _ (by omega), fA _ (by omega)]; exact tw_roads t), (by rw [fI _ _ (by omega), fA _ (by omega)]; exact tw_rumours t), (by rw [fI _ _ (by omega), fA _ (by omega)]; exact tw_day t), (by rw [fI _ _ (by omega), fA _ (by omega)]; exact tw_x t), (by rw [fI _ _ (by omega), fA _ (by omega)]; exact tw_paid t), (by rw [fI _ _ (by omega), fA _ (by omega)]; exact tw_texts t), (by rw [fI _ _ (by omega), fA _ (by omega)]; exact tw_ruling t)⟩, fun Q => ?_⟩
    · intro s hs
      rw [f1] at hs
      by_cases e : s = r
      · rw [e, er, eI, uI_n (by omega), uI_n (by omega), uI_s]
      · rw [fI _ _ (by omega), ek s hs e]
        exact tw_keepers t hs
    · intro i hi
      unfold tlA wrA
      rw [tk_wn, ew, if_neg (by omega), tk_o (show 8 ≠ 12 + h by omega), tk_o (show 11 ≠ 12 + h by omega)]
      by_cases c1 : i = A 11
      · rw [if_pos (by omega), eI, uI_n (by omega), uI_e c1]
      · rw [if_neg (by omega), if_neg (by omega), fI _ _ (by omega), tk_o (by omega)]
        exact tw_pages t hi
    · rw [f11, ew, eI, uI_s]
    · rw [eI]
      simp (disch := first | assumption | omega | decide) only [x101a_0, x101a_1, x101a_2, x101a_3, x101a_4, x101a_5, x101a_6, x101a_7, x101a_8, x101a_9, x101a_10, x101a_11, x101a_12, x101a_13, x101a_14, x101a_15, x101a_16, x101a_17, x101a_18, x101a_19, x101a_20, x101a_21, x101a_22, x101a_23, x101a_24, x101a_25, x101a_26, x101a_27, x101a_28, x101a_29, x101a_30, x101a_31, x101a_32, x101a_33, x101a_34, x101a_35, x101a_36, x101a_37, x101a_38, x101a_39, x101a_40, x101a_41, x101a_42, x101a_43, x101a_44, x101a_45, x101a_46, ↓reduceIte, Option.toList, List.nil_append, List.cons_append, nI_add, pk_mul, n_and, n_or, n_xor, nI_leI, nI_ltI, nI_eq, n_z, uI_s, uI_n, bI_n0, bI_n1, bT, bF, if_true, if_false, not_true, not_false_eq_true, pk_div, pk_rem, Nat.reduceEqDiff, Nat.reduceLeDiff, Nat.reduceLT, Nat.reduceAdd, Nat.reduceMul, Nat.reduceSub, Nat.not_lt_zero, Nat.zero_le, reduceCtorEq, ite_self, n_rem, and_self, and_true, true_and, and_false, false_and, tw_keepers t hr, n_one, tw_written t, h31, tw_day t]
theorem sp_forgetTb {h r : Nat} (w : Wf A) (hh : h < 8) (hr : r < A 1) (t : Twn I 19 20 21 22 23 24 25 26 27 A) : ∃ I', (∀ c k, c ≠ 26 → I' c k = I c k) ∧ (Twn I' 19 20 21 22 23 24 25 26 27 (fgA A h r)) ∧ ∀ Q, Rn sc d 102 0 [some (.ref 19), some (.int (nI h)), some (.int (nI r))] [] (K0, I, J, R1 T) Q = Q none (K0, I', J, R1 T) := by
  have w0 : A 0 ≤ 12 := w.1.1
  have w1 : A 1 ≤ 4 := w.1.2.1
  obtain ⟨I1, eI⟩ : ∃ X, X = uI I 26 r (nI (kpr A r &&& (2 ^ h ^^^ 4294967295))) := ⟨_, rfl⟩
  have fI : ∀ c k, c ≠ 26 ∨ k ≠ r → I1 c k = I c k := fun c k hk => by rw [eI]; exact uI_n hk
  have fA : ∀ k, k ≠ 12 + h → fgA A h r k = A k := fun k hk => upA_n hk
  have f1 : fgA A h r 1 = A 1 := fA 1 (by omega)
  refine ⟨I1, fun c k hc => fI c k (by omega), ⟨(fun h hh => by rw [fI _ _ (by omega), fA _ (by omega)]; exact tw_rooms t hh), (fun h hh => by rw [fI _ _ (by omega), fA _ (by omega)]; exact tw_income t hh), (fun h hh => by rw [fI _ _ (by omega), bes_c (fun k hk => fA k (by omega)) w0]; exact tw_beside t hh), (fun r hr => by rw [f1] at hr; rw [fI _ _ (by omega), fA _ (by omega)]; exact tw_truth t hr), (fun r hr => by rw [f1] at hr; rw [fI _ _ (by omega), fA _ (by omega)]; exact tw_purse t hr), (fun r hr => by rw [f1] at hr; rw [fI _ _ (by omega), fA _ (by omega)]; exact tw_told t hr), ?_, (fun h hh => by rw [fI _ _ (by omega), fA _ (by omega)]; exact tw_pages t hh), (by rw [fI _ _ (by omega), fA _ (by omega)]; exact tw_written t), (by rw [fI _ _ (by omega), fA _ (by omega)]; exact tw_roads t), (by rw [fI _ _ (by omega), fA _ (by omega)]; exact tw_rumours t), (by rw [fI _ _ (by omega), fA _ (by omega)]; exact tw_day t), (by rw [fI _ _ (by omega), fA _ (by omega)]; exact tw_x t), (by rw [fI _ _ (by omega), fA _ (by omega)]; exact tw_paid t), (by rw [fI _ _ (by omega), fA _ (by omega)]; exact tw_texts t), (by rw [fI _ _ (by omega), fA _ (by omega)]; exact tw_ruling t)⟩, fun Q => ?_⟩
  · intro s hs
    rw [f1] at hs
    by_cases e : s = r
    · rw [e, eI, uI_s, kpr_fg hh]
    · rw [fI _ _ (by omega), kpr_fg' hh e]
      exact tw_keepers t hs
  · rw [eI]
    simp (disch := first | assumption | omega | decide) only [x102b_0, x102b_1, x102b_2, x102b_3, x102b_4, x102b_5, x102b_6, x102b_7, x102b_8, x102b_9, x102b_10, x102b_11, x102b_12, ↓reduceIte, Option.toList, List.nil_append, List.cons_append, nI_add, pk_mul, n_and, n_or, n_xor, nI_leI, nI_ltI, nI_eq, n_z, uI_s, uI_n, bI_n0, bI_n1, bT, bF, if_true, if_false, not_true, not_false_eq_true, pk_div, pk_rem, Nat.reduceEqDiff, Nat.reduceLeDiff, Nat.reduceLT, Nat.reduceAdd, Nat.reduceMul, Nat.reduceSub, Nat.not_lt_zero, Nat.zero_le, reduceCtorEq, ite_self, n_rem, and_self, and_true, true_and, and_false, false_and, tw_keepers t hr, n_one, n_m1, n_xor, n_and]
theorem sp_keepTb {h r : Nat} (w : Wf A) (hh : h < 8) (hr : r < A 1) (t : Twn I 19 20 21 22 23 24 25 26 27 A) : ∃ I', (∀ c k, c ≠ 19 ∧ c ≠ 26 ∧ c ≠ 27 → I' c k = I c k) ∧ (Twn I' 19 20 21 22 23 24 25 26 27 (tlA A h r)) ∧ ∀ Q, Rn sc d 101 0 [some (.ref 19), some (.int (nI h)), some (.int (nI r))] [] (K0, I, J, R1 T) Q = Q none (K0, I', J, R1 T) := by
  have w0 : A 0 ≤ 12 := w.1.1
  have w1 : A 1 ≤ 4 := w.1.2.1
  have w11 : A 11 ≤ 30 := w.1.2.2.2.2.2.2.2.2.2.2.2
  have hn := wn_lt w11
  have fA : ∀ k, k ≠ 11 ∧ k < 1769 ∧ k ≠ 12 + h → tlA A h r k = A k := fun k hk => tl_o hk
  have f1 : tlA A h r 1 = A 1 := fA 1 (by omega)
  have f11 : tlA A h r 11 = wn A + 1 := by
    unfold tlA wrA
    rw [if_pos rfl, tk_wn]
  have ek : ∀ s, s < A 1 → s ≠ r → kpr (tlA A h r) s = kpr A s := fun s _ e => by rw [tl_k, kpr_tk' hh e]
  have er : kpr (tlA A h r) r = kpr A r ||| 2 ^ h := by rw [tl_k, kpr_tk hh]
  by_cases h30 : A 11 = 30
  · have ew : wn A = 29 := if_pos h30
    obtain ⟨I1, eI⟩ : ∃ X, X = uI (uI (uI (uC (uI I 26 r (nI (kpr A r ||| 2 ^ h))) 27 27 1 0 29) 19 8 (nI 29)) 27 29 (nI ((A 8 * 8 + h) * 4 + r))) 19 8 (nI 30) := ⟨_, rfl⟩
    have fI : ∀ c k, (c ≠ 26 ∨ k ≠ r) ∧ c ≠ 27 ∧ (c ≠ 19 ∨ k ≠ 8) → I1 c k = I c k := fun c k hk => by rw [eI, uI_n (by omega), uI_n (by omega), uI_n (by omega), uC_n (by omega), uI_n (by omega)]
    refine ⟨I1, fun c k hc => fI c k (by omega), ⟨(fun h hh => by rw [fI _ _ (by omega), fA _ (by omega)]; exact tw_rooms t hh), (fun h hh => by rw [fI _ _ (by omega), fA _ (by omega)]; exact tw_income t hh), (fun h hh => by rw [fI _ _ (by omega), bes_c (fun k hk => fA k (by omega)) w0]; exact tw_beside t hh), (fun r hr => by rw [f1] at hr; rw [fI _ _ (by omega), fA _ (by omega)]; exact tw_truth t hr), (fun r hr => by rw [f1] at hr; rw [fI _ _ (by omega), fA _ (by omega)]; exact tw_purse t hr), (fun r hr => by rw [f1] at hr; rw [fI _ _ (by omega), fA _ (by omega)]; exact tw_told t hr), ?_, ?_, ?_, (by rw [fI _ _ (by omega), fA _ (by omega)]; exact tw_roads t), (by rw [fI _ _ (by omega), fA _ (by omega)]; exact tw_rumours t), (by rw [fI _ _ (by omega), fA _ (by omega)]; exact tw_day t), (by rw [fI _ _ (by omega), fA _ (by omega)]; exact tw_x t), (by rw [fI _ _ (by omega), fA _ (by omega)]; exact tw_paid t), (by rw [fI _ _ (by omega), fA _ (by omega)]; exact tw_texts t), (by rw [fI _ _ (by omega), fA _ (by omega)]; exact tw_ruling t)⟩, fun Q => ?_⟩
    · intro s hs
      rw [f1] at hs
      by_cases e : s = r
      · rw [e, er, eI, uI_n (by omega), uI_n (by omega), uI_n (by omega), uC_n (by omega), uI_s]
      · rw [fI _ _ (by omega), ek s hs e]
        exact tw_keepers t hs
    · intro i hi
      unfold tlA wrA
      rw [tk_wn, ew, if_neg (by omega), tk_o (show 8 ≠ 12 + h by omega), tk_o (show 11 ≠ 12 + h by omega), eI, uI_n (by omega)]
      by_cases c1 : i = 29
      · rw [if_pos (by omega), uI_e c1]
      · rw [if_neg (by omega), if_pos (by omega), uI_n (by omega), uI_n (by omega), uC_i (by omega), uI_n (by omega), tk_o (by omega), tw_pages t (by omega)]
        congr 2
        omega
    · rw [f11, ew, eI, uI_s]
    · rw [eI]
      simp (disch := first | assumption | omega | decide) only [x101b_0, x101b_1, x101b_2, x101b_3, x101b_4, x101b_5, x101b_6, x101b_7, x101b_8, x101b_9, x101b_10, x101b_11, x101b_12, x101b_13, x101b_14, x101b_15, x101b_16, x101b_17, x101b_18, x101b_19, x101b_20, x101b_21, x101b_22, x101b_23, x101b_24, x101b_25, x101b_26, x101b_27, x101b_28, x101b_29, x101b_30, x101b_31, x101b_32, x101b_33, x101b_34, x101b_35, x101b_36, x101b_37, x101b_38, x101b_39, x101b_40, x101b_41, x101b_42, x101b_43, x101b_44, x101b_45, x101b_46, ↓reduceIte, Option.toList, List.nil_append, List.cons_append, nI_add, pk_mul, n_and, n_or, n_xor, nI_leI, nI_ltI, nI_eq, n_z, uI_s, uI_n, bI_n0, bI_n1, bT, bF, if_true, if_false, not_true, not_false_eq_true, pk_div, pk_rem, Nat.reduceEqDiff, Nat.reduceLeDiff, Nat.reduceLT, Nat.reduceAdd, Nat.reduceMul, Nat.reduceSub, Nat.not_lt_zero, Nat.zero_le, reduceCtorEq, ite_self, n_rem, and_self, and_true, true_and, and_false, false_and, tw_keepers t hr, n_one, uC_n, tw_written t, h30, tw_day t]
  · have ew : wn A = A 11 := if_neg h30
    have h31 : A 11 < 30 := by omega
    obtain ⟨I1, eI⟩ : ∃ X, X = uI (uI (uI I 26 r (nI (kpr A r ||| 2 ^ h))) 27 (A 11) (nI ((A 8 * 8 + h) * 4 + r))) 19 8 (nI (A 11 + 1)) := ⟨_, rfl⟩
    have fI : ∀ c k, (c ≠ 26 ∨ k ≠ r) ∧ (c ≠ 27 ∨ k ≠ A 11) ∧ (c ≠ 19 ∨ k ≠ 8) → I1 c k = I c k := fun c k hk => by rw [eI, uI_n (by omega), uI_n (by omega), uI_n (by omega)]
    refine ⟨I1, fun c k hc => fI c k (by omega), ⟨(fun h hh => by rw [fI _ _ (by omega), fA _ (by omega)]; exact tw_rooms t hh), (fun h hh => by rw [fI _ _ (by omega), fA _ (by omega)]; exact tw_income t hh), (fun h hh => by rw [fI _ _ (by omega), bes_c (fun k hk => fA k (by omega)) w0]; exact tw_beside t hh), (fun r hr => by rw [f1] at hr; rw [fI _ _ (by omega), fA _ (by omega)]; exact tw_truth t hr), (fun r hr => by rw [f1] at hr; rw [fI _ _ (by omega), fA _ (by omega)]; exact tw_purse t hr), (fun r hr => by rw [f1] at hr; rw [fI _ _ (by omega), fA _ (by omega)]; exact tw_told t hr), ?_, ?_, ?_, (by rw [fI _ _ (by omega), fA _ (by omega)]; exact tw_roads t), (by rw [fI _ _ (by omega), fA _ (by omega)]; exact tw_rumours t), (by rw [fI _ _ (by omega), fA _ (by omega)]; exact tw_day t), (by rw [fI _ _ (by omega), fA _ (by omega)]; exact tw_x t), (by rw [fI _ _ (by omega), fA _ (by omega)]; exact tw_paid t), (by rw [fI _ _ (by omega), fA _ (by omega)]; exact tw_texts t), (by rw [fI _ _ (by omega), fA _ (by omega)]; exact tw_ruling t)⟩, fun Q => ?_⟩
    · intro s hs
      rw [f1] at hs
      by_cases e : s = r
      · rw [e, er, eI, uI_n (by omega), uI_n (by omega), uI_s]
      · rw [fI _ _ (by omega), ek s hs e]
        exact tw_keepers t hs
    · intro i hi
      unfold tlA wrA
      rw [tk_wn, ew, if_neg (by omega), tk_o (show 8 ≠ 12 + h by omega), tk_o (show 11 ≠ 12 + h by omega)]
      by_cases c1 : i = A 11
      · rw [if_pos (by omega), eI, uI_n (by omega), uI_e c1]
      · rw [if_neg (by omega), if_neg (by omega), fI _ _ (by omega), tk_o (by omega)]
        exact tw_pages t hi
    · rw [f11, ew, eI, uI_s]
    · rw [eI]
      simp (disch := first | assumption | omega | decide) only [x101b_0, x101b_1, x101b_2, x101b_3, x101b_4, x101b_5, x101b_6, x101b_7, x101b_8, x101b_9, x101b_10, x101b_11, x101b_12, x101b_13, x101b_14, x101b_15, x101b_16, x101b_17, x101b_18, x101b_19, x101b_20, x101b_21, x101b_22, x101b_23, x101b_24, x101b_25, x101b_26, x101b_27, x101b_28, x101b_29, x101b_30, x101b_31, x101b_32, x101b_33, x101b_34, x101b_35, x101b_36, x101b_37, x101b_38, x101b_39, x101b_40, x101b_41, x101b_42, x101b_43, x101b_44, x101b_45, x101b_46, ↓reduceIte, Option.toList, List.nil_append, List.cons_append, nI_add, pk_mul, n_and, n_or, n_xor, nI_leI, nI_ltI, nI_eq, n_z, uI_s, uI_n, bI_n0, bI_n1, bT, bF, if_true, if_false, not_true, not_false_eq_true, pk_div, pk_rem, Nat.reduceEqDiff, Nat.reduceLeDiff, Nat.reduceLT, Nat.reduceAdd, Nat.reduceMul, Nat.reduceSub, Nat.not_lt_zero, Nat.zero_le, reduceCtorEq, ite_self, n_rem, and_self, and_true, true_and, and_false, false_and, tw_keepers t hr, n_one, tw_written t, h31, tw_day t]
theorem sp_writeM {h r : Nat} {u : Option Value} (w : Wf A) (m : AtM I 90 A) (e : I 89 23 = nI 1) : ∃ I', (∀ c k, c ≠ 90 → I' c k = I c k) ∧ AtM I' 90 (wrA A h r) ∧ ∀ Q, Rn sc d 232 0 [some (.ref 89), some (.int (nI h)), some (.int (nI r)), u] [] (K0, I, J, R1 T) Q = Q none (K0, I', J, R1 T) := by
  have m' : ∀ k, k < 1799 → I 90 k = nI (A k) := m
  have w11 : A 11 ≤ 30 := w.1.2.2.2.2.2.2.2.2.2.2.2
  by_cases h30 : A 11 = 30
  · have ew : wn A = 29 := if_pos h30
    have h1 := fun Q => iter0 (fun j => Rn sc d 232 12 [some (.ref 89), some (.int (nI h)), some (.int (nI r)), some (.int (nI (j + 1)))] [] (K0, uC I 90 90 1770 1769 j, J, R1 T) Q) 29 (by
      intro j hj
      show Rn _ _ _ _ _ _ _ _ = Rn _ _ _ _ _ _ _ _
      have g1 : 1769 + (j + 1) = 1770 + j := by omega
      have g2 : 1770 + j - 1 = 1769 + j := by omega
      have g3 : ¬ 30 ≤ j + 1 := by omega
      rw [x232_12]
      simp (disch := first | assumption | omega | decide) only [x232_0, x232_1, x232_2, x232_3, x232_4, x232_5, x232_6, x232_7, x232_8, x232_9, x232_10, x232_11, x232_13, x232_14, x232_15, x232_16, x232_17, x232_18, x232_19, x232_20, x232_21, x232_22, x232_23, x232_24, x232_25, x232_26, x232_27, x232_28, x232_29, x232_30, x232_31, x232_32, x232_33, x232_34, x232_35, x232_36, x232_37, x232_38, x232_39, x232_40, x232_41, x232_42, x232_43, x232_44, x232_45, x232_46, x232_47, x232_48, x232_49, x232_50, x232_51, x232_52, x232_53, x232_54, x232_55, x232_56, x232_57, x232_58, x232_59, x232_60, x232_61, x232_62, x232_63, x232_64, x232_65, x232_66, x232_67, x232_68, ↓reduceIte, Option.toList, List.nil_append, List.cons_append, nI_add, pk_mul, n_and, n_or, n_xor, nI_leI, nI_ltI, nI_eq, n_z, uI_s, uI_n, bI_n0, bI_n1, bT, bF, if_true, if_false, not_true, not_false_eq_true, pk_div, pk_rem, Nat.reduceEqDiff, Nat.reduceLeDiff, Nat.reduceLT, Nat.reduceAdd, Nat.reduceMul, Nat.reduceSub, Nat.not_lt_zero, Nat.zero_le, reduceCtorEq, ite_self, n_rem, and_self, and_true, true_and, and_false, false_and, g1, g2, g3, n_sub, uC_n, cp_g])
    refine ⟨uI (uI (uI (uC I 90 90 1770 1769 29) 90 11 (nI 29)) 90 (1769 + 29) (nI ((A 8 * 8 + h) * 4 + r))) 90 11 (nI 30), fun c k hc => ?_, fun k hk => ?_, fun Q => ?_⟩
    · rw [uI_n (by omega), uI_n (by omega), uI_n (by omega), uC_n (by omega)]
    · unfold wrA
      rw [ew]
      by_cases c1 : k = 11
      · rw [if_pos c1, uI_e c1]
      · rw [if_neg c1, uI_n (by omega)]
        by_cases c2 : k = 1769 + 29
        · rw [if_pos c2, uI_e c2]
        · rw [if_neg c2, uI_n (by omega), uI_n (by omega)]
          by_cases c3 : (1769 ≤ k ∧ k < 1769 + 29) ∧ A 11 = 30
          · rw [if_pos c3, uC_i (by omega), m' _ (by omega), show 1770 + (k - 1769) = k + 1 by omega]
          · rw [if_neg c3, uC_n (by omega), m' k hk]
    · have h1' := h1 Q
      rw [cp_z] at h1'
      simp (disch := first | assumption | omega | decide) only [x232_0, x232_1, x232_2, x232_3, x232_4, x232_5, x232_6, x232_7, x232_8, x232_9, x232_10, x232_11, x232_13, x232_14, x232_15, x232_16, x232_17, x232_18, x232_19, x232_20, x232_21, x232_22, x232_23, x232_24, x232_25, x232_26, x232_27, x232_28, x232_29, x232_30, x232_31, x232_32, x232_33, x232_34, x232_35, x232_36, x232_37, x232_38, x232_39, x232_40, x232_41, x232_42, x232_43, x232_44, x232_45, x232_46, x232_47, x232_48, x232_49, x232_50, x232_51, x232_52, x232_53, x232_54, x232_55, x232_56, x232_57, x232_58, x232_59, x232_60, x232_61, x232_62, x232_63, x232_64, x232_65, x232_66, x232_67, x232_68, ↓reduceIte, Option.toList, List.nil_append, List.cons_append, nI_add, pk_mul, n_and, n_or, n_xor, nI_leI, nI_ltI, nI_eq, n_z, uI_s, uI_n, bI_n0, bI_n1, bT, bF, if_true, if_false, not_true, not_false_eq_true, pk_div, pk_rem, Nat.reduceEqDiff, Nat.reduceLeDiff, Nat.reduceLT, Nat.reduceAdd, Nat.reduceMul, Nat.reduceSub, Nat.not_lt_zero, Nat.zero_le, reduceCtorEq, ite_self, n_rem, and_self, and_true, true_and, and_false, false_and, e, m', h30]
      refine Eq.trans h1' ?_
      show Rn _ _ _ _ _ _ _ _ = _
      rw [x232_12]
      simp (disch := first | assumption | omega | decide) only [x232_0, x232_1, x232_2, x232_3, x232_4, x232_5, x232_6, x232_7, x232_8, x232_9, x232_10, x232_11, x232_13, x232_14, x232_15, x232_16, x232_17, x232_18, x232_19, x232_20, x232_21, x232_22, x232_23, x232_24, x232_25, x232_26, x232_27, x232_28, x232_29, x232_30, x232_31, x232_32, x232_33, x232_34, x232_35, x232_36, x232_37, x232_38, x232_39, x232_40, x232_41, x232_42, x232_43, x232_44, x232_45, x232_46, x232_47, x232_48, x232_49, x232_50, x232_51, x232_52, x232_53, x232_54, x232_55, x232_56, x232_57, x232_58, x232_59, x232_60, x232_61, x232_62, x232_63, x232_64, x232_65, x232_66, x232_67, x232_68, ↓reduceIte, Option.toList, List.nil_append, List.cons_append, nI_add, pk_mul, n_and, n_or, n_xor, nI_leI, nI_ltI, nI_eq, n_z, uI_s, uI_n, bI_n0, bI_n1, bT, bF, if_true, if_false, not_true, not_false_eq_true, pk_div, pk_rem, Nat.reduceEqDiff, Nat.reduceLeDiff, Nat.reduceLT, Nat.reduceAdd, Nat.reduceMul, Nat.reduceSub, Nat.not_lt_zero, Nat.zero_le, reduceCtorEq, ite_self, n_rem, and_self, and_true, true_and, and_false, false_and, uC_n, m', h30, n_sub]
  · have ew : wn A = A 11 := if_neg h30
    refine ⟨uI (uI I 90 (1769 + A 11) (nI ((A 8 * 8 + h) * 4 + r))) 90 11 (nI (A 11 + 1)), fun c k hc => ?_, fun k hk => ?_, fun Q => ?_⟩
    · rw [uI_n (by omega), uI_n (by omega)]
    · unfold wrA
      rw [ew]
      by_cases c1 : k = 11
      · rw [if_pos c1, uI_e c1]
      · rw [if_neg c1, uI_n (by omega)]
        by_cases c2 : k = 1769 + A 11
        · rw [if_pos c2, uI_e c2]
        · rw [if_neg c2, if_neg (by omega), uI_n (by omega), m' k hk]
    · simp (disch := first | assumption | omega | decide) only [x232_0, x232_1, x232_2, x232_3, x232_4, x232_5, x232_6, x232_7, x232_8, x232_9, x232_10, x232_11, x232_13, x232_14, x232_15, x232_16, x232_17, x232_18, x232_19, x232_20, x232_21, x232_22, x232_23, x232_24, x232_25, x232_26, x232_27, x232_28, x232_29, x232_30, x232_31, x232_32, x232_33, x232_34, x232_35, x232_36, x232_37, x232_38, x232_39, x232_40, x232_41, x232_42, x232_43, x232_44, x232_45, x232_46, x232_47, x232_48, x232_49, x232_50, x232_51, x232_52, x232_53, x232_54, x232_55, x232_56, x232_57, x232_58, x232_59, x232_60, x232_61, x232_62, x232_63, x232_64, x232_65, x232_66, x232_67, x232_68, ↓reduceIte, Option.toList, List.nil_append, List.cons_append, nI_add, pk_mul, n_and, n_or, n_xor, nI_leI, nI_ltI, nI_eq, n_z, uI_s, uI_n, bI_n0, bI_n1, bT, bF, if_true, if_false, not_true, not_false_eq_true, pk_div, pk_rem, Nat.reduceEqDiff, Nat.reduceLeDiff, Nat.reduceLT, Nat.reduceAdd, Nat.reduceMul, Nat.reduceSub, Nat.not_lt_zero, Nat.zero_le, reduceCtorEq, ite_self, n_rem, and_self, and_true, true_and, and_false, false_and, e, m', h30]
theorem sp_tellM1 {h r : Nat} (w : Wf A) (hh : h < 8) (hr : r < A 1) (m : AtM I 90 A) (e : I 89 23 = nI 1) : ∃ I', (∀ c k, c ≠ 90 → I' c k = I c k) ∧ AtM I' 90 (tlA A h r) ∧ ∀ Q, Rn sc (d + 1) 236 0 [some (.ref 89), some (.int (nI h)), some (.int (nI r))] [] (K0, I, J, R1 T) Q = Q none (K0, I', J, R1 T) := by
  have m' : ∀ k, k < 1799 → I 90 k = nI (A k) := m
  have w1 : A 1 ≤ 4 := w.1.2.1
  obtain ⟨I', f, a, q⟩ := sp_writeM (sc := sc) (d := d) (J := J) (T := T) (h := h) (r := r) (u := none) (I := uI I 90 (12 + h) (nI (A (12 + h) ||| 2 ^ r))) (tk_W w hh hr) (AtM_u m) ((uI_n (by omega)).trans e)
  refine ⟨I', fun c k hc => (f c k hc).trans (uI_n (by omega)), a, fun Q => ?_⟩
  simp (disch := first | assumption | omega | decide) only [x236_0, x236_1, x236_2, x236_3, x236_4, x236_5, x236_6, x236_7, x236_8, x236_9, x236_10, x236_11, x236_12, x236_13, x236_14, x236_15, x236_16, ↓reduceIte, Option.toList, List.nil_append, List.cons_append, nI_add, pk_mul, n_and, n_or, n_xor, nI_leI, nI_ltI, nI_eq, n_z, uI_s, uI_n, bI_n0, bI_n1, bT, bF, if_true, if_false, not_true, not_false_eq_true, pk_div, pk_rem, Nat.reduceEqDiff, Nat.reduceLeDiff, Nat.reduceLT, Nat.reduceAdd, Nat.reduceMul, Nat.reduceSub, Nat.not_lt_zero, Nat.zero_le, reduceCtorEq, ite_self, n_rem, and_self, and_true, true_and, and_false, false_and, m', n_one, q]
theorem sp_tellM0 {h r : Nat} {Q : Option Value → Mm → Prop} (w : Wf A) (hh : h < 8) (hr : r < A 1) (m : AtM I 90 A) (e : I 89 23 = nI 0) : Rn sc (d + 1) 236 0 [some (.ref 89), some (.int (nI h)), some (.int (nI r))] [] (K0, I, J, R1 T) Q = Q none (K0, uI I 90 (12 + h) (nI (A (12 + h) ||| 2 ^ r)), J, R1 T) := by
  have m' : ∀ k, k < 1799 → I 90 k = nI (A k) := m
  have w1 : A 1 ≤ 4 := w.1.2.1
  simp (disch := first | assumption | omega | decide) only [x236_0, x236_1, x236_2, x236_3, x236_4, x236_5, x236_6, x236_7, x236_8, x236_9, x236_10, x236_11, x236_12, x236_13, x236_14, x236_15, x236_16, ↓reduceIte, Option.toList, List.nil_append, List.cons_append, nI_add, pk_mul, n_and, n_or, n_xor, nI_leI, nI_ltI, nI_eq, n_z, uI_s, uI_n, bI_n0, bI_n1, bT, bF, if_true, if_false, not_true, not_false_eq_true, pk_div, pk_rem, Nat.reduceEqDiff, Nat.reduceLeDiff, Nat.reduceLT, Nat.reduceAdd, Nat.reduceMul, Nat.reduceSub, Nat.not_lt_zero, Nat.zero_le, reduceCtorEq, ite_self, n_rem, and_self, and_true, true_and, and_false, false_and, m', n_one, x232_0, x232_1, x232_2, x232_3, x232_4, x232_5, x232_6, x232_7, x232_8, x232_9, x232_10, x232_11, x232_13, x232_14, x232_15, x232_16, x232_17, x232_18, x232_19, x232_20, x232_21, x232_22, x232_23, x232_24, x232_25, x232_26, x232_27, x232_28, x232_29, x232_30, x232_31, x232_32, x232_33, x232_34, x232_35, x232_36, x232_37, x232_38, x232_39, x232_40, x232_41, x232_42, x232_43, x232_44, x232_45, x232_46, x232_47, x232_48, x232_49, x232_50, x232_51, x232_52, x232_53, x232_54, x232_55, x232_56, x232_57, x232_58, x232_59, x232_60, x232_61, x232_62, x232_63, x232_64, x232_65, x232_66, x232_67, x232_68, e]
end Deeds
