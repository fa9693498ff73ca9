/-! the reference's reading of sums: its pile -/
def rk (o : Nat) : Nat := if 40 ≤ o then 0 else if o = 22 then 1 else if o = 21 then 2 else if o = 20 then 3 else if 10 ≤ o then 4 else if o = 5 ∨ o = 2 ∨ o = 4 then 7 else if 8 ≤ o then 6 else 5
def opq (o : Nat) : Nat := if 40 ≤ o ∨ rk o = 7 ∨ o = 20 then 1 else 0
def opsN : List Nat → Nat
  | [] => 0
  | x :: P => opq x + opsN P
def stl (k : Nat) : List Nat → List (Nat × Nat) → List Nat × List (Nat × Nat)
  | [], out => ([], out)
  | x :: P, out => if k ≤ rk x then stl k P (out ++ [(x, 0)]) else (x :: P, out)
def opW : List Nat → Nat
  | [] => 0
  | x :: P => if 40 ≤ x then x else opW P
def opI : List Nat → Nat
  | [] => 0
  | x :: P => if 40 ≤ x then P.length + 1 else opI P
def isCm : List Nat → Bool
  | [] => false
  | x :: P => if 4 < rk x then isCm P else decide (rk x = 4)
def askA : List Nat → Bool
  | [] => false
  | x :: P => decide (opW (x :: P) = 42) && (decide (40 ≤ x) || decide (1 ≤ rk x ∧ rk x ≤ 3))
def Wp : List Nat → Prop
  | [] => True
  | x :: P => x < 64 ∧ P.length + 1 ≤ 7 * opsN (x :: P) + (if opq x = 1 then 0 else rk x) ∧ Wp P
def PlL (I : Nat → Nat → Int32) : List Nat → Prop
  | [] => True
  | x :: P => I 94 P.length = nI x ∧ PlL I P
def OtM (I : Nat → Nat → Int32) (x0 : Nat) (out : List (Nat × Nat)) : Prop := I 89 13 = nI out.length ∧ ∀ j, j < out.length → I 92 (x0 + 73 + 2 * j) = nI (out.getD j (0, 0)).1 ∧ I 92 (x0 + 73 + 2 * j + 1) = nI (out.getD j (0, 0)).2
def CoR (I : Nat → Nat → Int32) (x0 : Nat) (P : List Nat) (out : List (Nat × Nat)) : Prop := PlL I P ∧ I 89 16 = nI P.length ∧ I 89 17 = nI (opsN P) ∧ I 89 12 = nI x0 ∧ OtM I x0 out
def FrS (x0 : Nat) (I I' : Nat → Nat → Int32) : Prop := ∀ c k, (c ≠ 89 ∨ (k ≠ 13 ∧ k ≠ 16 ∧ k ≠ 17)) → (c ≠ 92 ∨ k < x0 + 73 ∨ x0 + 681 ≤ k) → I' c k = I c k
theorem FrS_r {x0 : Nat} {I : Nat → Nat → Int32} : FrS x0 I I := fun _ _ _ _ => rfl
theorem FrS_t {x0 : Nat} {I I' I'' : Nat → Nat → Int32} (h : FrS x0 I I') (h' : FrS x0 I' I'') : FrS x0 I I'' := fun c k a1 a2 => (h' c k a1 a2).trans (h c k a1 a2)
theorem rk_le (o : Nat) : rk o ≤ 7 := by
  unfold rk
  repeat' split
  all_goals omega
theorem wp_len : ∀ {P : List Nat}, Wp P → P.length ≤ 7 * opsN P + 7
  | [], _ => Nat.zero_le _
  | x :: P, h => by
    have h2 := h.2.1
    have r := rk_le x
    rw [List.length_cons]
    split at h2 <;> omega
theorem wp_62 {P : List Nat} (h : Wp P) (h8 : opsN P ≤ 8) : P.length ≤ 63 := by
  have := wp_len h
  omega
theorem PlL_c {I I' : Nat → Nat → Int32} : ∀ P : List Nat, (∀ k, k < P.length → I' 94 k = I 94 k) → PlL I P → PlL I' P
  | [], _, _ => trivial
  | x :: P, h, t => ⟨(h _ (Nat.lt_succ_self _)).trans t.1, PlL_c P (fun k hk => h k (Nat.lt_succ_of_lt hk)) t.2⟩
theorem gp_a {cs ds : List (Nat × Nat)} {j : Nat} (h : j < cs.length) : (cs ++ ds).getD j (0, 0) = cs.getD j (0, 0) := by
  rw [List.getD_eq_getElem?_getD, List.getD_eq_getElem?_getD, List.getElem?_append_left h]
theorem gp_e {cs : List (Nat × Nat)} {x : Nat × Nat} : (cs ++ [x]).getD cs.length (0, 0) = x := by
  rw [List.getD_eq_getElem?_getD, List.getElem?_append_right (Nat.le_refl _), Nat.sub_self]
  rfl
theorem op_le {P : List Nat} {x : Nat} : opsN P ≤ opsN (x :: P) := Nat.le_add_left _ _
theorem st_ops {k : Nat} : ∀ (P : List Nat) (out : List (Nat × Nat)), Wp P → Wp (stl k P out).1 ∧ opsN (stl k P out).1 ≤ opsN P ∧ (stl k P out).1.length + (stl k P out).2.length = P.length + out.length
  | [], out, _ => ⟨trivial, Nat.le_refl _, rfl⟩
  | x :: P, out, h => by
    rw [stl]
    by_cases c : k ≤ rk x
    · obtain ⟨h1, h2, h3⟩ := st_ops (k := k) P (out ++ [(x, 0)]) h.2.2
      rw [if_pos c]
      refine ⟨h1, Nat.le_trans h2 op_le, ?_⟩
      rw [h3, List.length_append, List.length_cons, List.length_cons, List.length_nil]
      omega
    · rw [if_neg c]
      exact ⟨h, Nat.le_refl _, rfl⟩
section RefM
variable {sc : Sc} {d : Nat} {J : Nat → Nat → Int64} {T : Option Nat} {x0 : Nat} {I : Nat → Nat → Int32}
theorem sp_rank {o : Nat} {Q : Option Value → Mm → Prop} (ho : o < 64) : Rn sc d 198 0 [some (.int (nI o))] [] (K0, I, J, R1 T) Q = Q (some (.int (nI (rk o)))) (K0, I, J, R1 T) := by
  unfold rk
  by_cases c1 : 40 ≤ o
  · have c1' : ¬ o < 40 := by omega
    rw [if_pos c1]
    simp (disch := first | assumption | omega | decide) only [x198_0, x198_1, x198_2, x198_3, x198_4, x198_5, x198_6, x198_7, x198_8, x198_9, x198_10, x198_11, x198_12, x198_13, x198_14, x198_15, x198_16, x198_17, x198_18, x198_19, x198_20, x198_21, x198_22, x198_23, x198_24, x198_25, x198_26, x198_27, x198_28, x198_29, x198_30, x198_31, x198_32, x198_33, x198_34, x198_35, x198_36, x198_37, x198_38, x198_39, x198_40, x198_41, x198_42, ↓reduceIte, Option.toList, List.nil_append, List.cons_append, nI_add, pk_mul, n_and, n_or, n_xor, nI_leI, nI_ltI, nI_eq, n_z, uI_s, uI_n, bI_n0, bI_n1, bT, bF, if_true, if_false, not_true, not_false_eq_true, pk_div, pk_rem, Nat.reduceEqDiff, Nat.reduceLeDiff, Nat.reduceLT, Nat.reduceAdd, Nat.reduceMul, Nat.reduceSub, Nat.not_lt_zero, Nat.zero_le, reduceCtorEq, ite_self, n_rem, and_self, and_true, true_and, and_false, false_and, c1']
  · have c1' : o < 40 := by omega
    rw [if_neg c1]
    by_cases c2 : o = 22
    · rw [if_pos c2, c2]
      simp (disch := first | assumption | omega | decide) only [x198_0, x198_1, x198_2, x198_3, x198_4, x198_5, x198_6, x198_7, x198_8, x198_9, x198_10, x198_11, x198_12, x198_13, x198_14, x198_15, x198_16, x198_17, x198_18, x198_19, x198_20, x198_21, x198_22, x198_23, x198_24, x198_25, x198_26, x198_27, x198_28, x198_29, x198_30, x198_31, x198_32, x198_33, x198_34, x198_35, x198_36, x198_37, x198_38, x198_39, x198_40, x198_41, x198_42, ↓reduceIte, Option.toList, List.nil_append, List.cons_append, nI_add, pk_mul, n_and, n_or, n_xor, nI_leI, nI_ltI, nI_eq, n_z, uI_s, uI_n, bI_n0, bI_n1, bT, bF, if_true, if_false, not_true, not_false_eq_true, pk_div, pk_rem, Nat.reduceEqDiff, Nat.reduceLeDiff, Nat.reduceLT, Nat.reduceAdd, Nat.reduceMul, Nat.reduceSub, Nat.not_lt_zero, Nat.zero_le, reduceCtorEq, ite_self, n_rem, and_self, and_true, true_and, and_false, false_and]
    · rw [if_neg c2]
      by_cases c3 : o = 21
      · rw [if_pos c3, c3]
        simp (disch := first | assumption | omega | decide) only [x198_0, x198_1, x198_2, x198_3, x198_4, x198_5, x198_6, x198_7, x198_8, x198_9, x198_10, x198_11, x198_12, x198_13, x198_14, x198_15, x198_16, x198_17, x198_18, x198_19, x198_20, x198_21, x198_22, x198_23, x198_24, x198_25, x198_26, x198_27, x198_28, x198_29, x198_30, x198_31, x198_32, x198_33, x198_34, x198_35, x198_36, x198_37, x198_38, x198_39, x198_40, x198_41, x198_42, ↓reduceIte, Option.toList, List.nil_append, List.cons_append, nI_add, pk_mul, n_and, n_or, n_xor, nI_leI, nI_ltI, nI_eq, n_z, uI_s, uI_n, bI_n0, bI_n1, bT, bF, if_true, if_false, not_true, not_false_eq_true, pk_div, pk_rem, Nat.reduceEqDiff, Nat.reduceLeDiff, Nat.reduceLT, Nat.reduceAdd, Nat.reduceMul, Nat.reduceSub, Nat.not_lt_zero, Nat.zero_le, reduceCtorEq, ite_self, n_rem, and_self, and_true, true_and, and_false, false_and]
      · rw [if_neg c3]
        by_cases c4 : o = 20
        · rw [if_pos c4, c4]
          simp (disch := first | assumption | omega | decide) only [x198_0, x198_1, x198_2, x198_3, x198_4, x198_5, x198_6, x198_7, x198_8, x198_9, x198_10, x198_11, x198_12, x198_13, x198_14, x198_15, x198_16, x198_17, x198_18, x198_19, x198_20, x198_21, x198_22, x198_23, x198_24, x198_25, x198_26, x198_27, x198_28, x198_29, x198_30, x198_31, x198_32, x198_33, x198_34, x198_35, x198_36, x198_37, x198_38, x198_39, x198_40, x198_41, x198_42, ↓reduceIte, Option.toList, List.nil_append, List.cons_append, nI_add, pk_mul, n_and, n_or, n_xor, nI_leI, nI_ltI, nI_eq, n_z, uI_s, uI_n, bI_n0, bI_n1, bT, bF, if_true, if_false, not_true, not_false_eq_true, pk_div, pk_rem, Nat.reduceEqDiff, Nat.reduceLeDiff, Nat.reduceLT, Nat.reduceAdd, Nat.reduceMul, Nat.reduceSub, Nat.not_lt_zero, Nat.zero_le, reduceCtorEq, ite_self, n_rem, and_self, and_true, true_and, and_false, false_and]
        · rw [if_neg c4]
          by_cases c5 : 10 ≤ o
          · have c5' : ¬ o < 10 := by omega
            rw [if_pos c5]
            simp (disch := first | assumption | omega | decide) only [x198_0, x198_1, x198_2, x198_3, x198_4, x198_5, x198_6, x198_7, x198_8, x198_9, x198_10, x198_11, x198_12, x198_13, x198_14, x198_15, x198_16, x198_17, x198_18, x198_19, x198_20, x198_21, x198_22, x198_23, x198_24, x198_25, x198_26, x198_27, x198_28, x198_29, x198_30, x198_31, x198_32, x198_33, x198_34, x198_35, x198_36, x198_37, x198_38, x198_39, x198_40, x198_41, x198_42, ↓reduceIte, Option.toList, List.nil_append, List.cons_append, nI_add, pk_mul, n_and, n_or, n_xor, nI_leI, nI_ltI, nI_eq, n_z, uI_s, uI_n, bI_n0, bI_n1, bT, bF, if_true, if_false, not_true, not_false_eq_true, pk_div, pk_rem, Nat.reduceEqDiff, Nat.reduceLeDiff, Nat.reduceLT, Nat.reduceAdd, Nat.reduceMul, Nat.reduceSub, Nat.not_lt_zero, Nat.zero_le, reduceCtorEq, ite_self, n_rem, and_self, and_true, true_and, and_false, false_and, c1', c2, c3, c4, c5']
          · have c5' : o < 10 := by omega
            rw [if_neg c5]
            by_cases c6 : o = 5 ∨ o = 2 ∨ o = 4
            · rw [if_pos c6]
              rcases c6 with c6 | c6 | c6 <;> rw [c6] <;> simp (disch := first | assumption | omega | decide) only [x198_0, x198_1, x198_2, x198_3, x198_4, x198_5, x198_6, x198_7, x198_8, x198_9, x198_10, x198_11, x198_12, x198_13, x198_14, x198_15, x198_16, x198_17, x198_18, x198_19, x198_20, x198_21, x198_22, x198_23, x198_24, x198_25, x198_26, x198_27, x198_28, x198_29, x198_30, x198_31, x198_32, x198_33, x198_34, x198_35, x198_36, x198_37, x198_38, x198_39, x198_40, x198_41, x198_42, ↓reduceIte, Option.toList, List.nil_append, List.cons_append, nI_add, pk_mul, n_and, n_or, n_xor, nI_leI, nI_ltI, nI_eq, n_z, uI_s, uI_n, bI_n0, bI_n1, bT, bF, if_true, if_false, not_true, not_false_eq_true, pk_div, pk_rem, Nat.reduceEqDiff, Nat.reduceLeDiff, Nat.reduceLT, Nat.reduceAdd, Nat.reduceMul, Nat.reduceSub, Nat.not_lt_zero, Nat.zero_le, reduceCtorEq, ite_self, n_rem, and_self, and_true, true_and, and_false, false_and]
            · have a1 : ¬ o = 5 := by omega
              have a2 : ¬ o = 2 := by omega
              have a3 : ¬ o = 4 := by omega
              rw [if_neg c6]
              by_cases c7 : 8 ≤ o
              · have c7' : ¬ o < 8 := by omega
                rw [if_pos c7]
                simp (disch := first | assumption | omega | decide) only [x198_0, x198_1, x198_2, x198_3, x198_4, x198_5, x198_6, x198_7, x198_8, x198_9, x198_10, x198_11, x198_12, x198_13, x198_14, x198_15, x198_16, x198_17, x198_18, x198_19, x198_20, x198_21, x198_22, x198_23, x198_24, x198_25, x198_26, x198_27, x198_28, x198_29, x198_30, x198_31, x198_32, x198_33, x198_34, x198_35, x198_36, x198_37, x198_38, x198_39, x198_40, x198_41, x198_42, ↓reduceIte, Option.toList, List.nil_append, List.cons_append, nI_add, pk_mul, n_and, n_or, n_xor, nI_leI, nI_ltI, nI_eq, n_z, uI_s, uI_n, bI_n0, bI_n1, bT, bF, if_true, if_false, not_true, not_false_eq_true, pk_div, pk_rem, Nat.reduceEqDiff, Nat.reduceLeDiff, Nat.reduceLT, Nat.reduceAdd, Nat.reduceMul, Nat.reduceSub, Nat.not_lt_zero, Nat.zero_le, reduceCtorEq, ite_self, n_rem, and_self, and_true, true_and, and_false, false_and, c1', c2, c3, c4, c5', a1, a2, a3, c7']
              · have c7' : o < 8 := by omega
                rw [if_neg c7]
                simp (disch := first | assumption | omega | decide) only [x198_0, x198_1, x198_2, x198_3, x198_4, x198_5, x198_6, x198_7, x198_8, x198_9, x198_10, x198_11, x198_12, x198_13, x198_14, x198_15, x198_16, x198_17, x198_18, x198_19, x198_20, x198_21, x198_22, x198_23, x198_24, x198_25, x198_26, x198_27, x198_28, x198_29, x198_30, x198_31, x198_32, x198_33, x198_34, x198_35, x198_36, x198_37, x198_38, x198_39, x198_40, x198_41, x198_42, ↓reduceIte, Option.toList, List.nil_append, List.cons_append, nI_add, pk_mul, n_and, n_or, n_xor, nI_leI, nI_ltI, nI_eq, n_z, uI_s, uI_n, bI_n0, bI_n1, bT, bF, if_true, if_false, not_true, not_false_eq_true, pk_div, pk_rem, Nat.reduceEqDiff, Nat.reduceLeDiff, Nat.reduceLT, Nat.reduceAdd, Nat.reduceMul, Nat.reduceSub, Nat.not_lt_zero, Nat.zero_le, reduceCtorEq, ite_self, n_rem, and_self, and_true, true_and, and_false, false_and, c1', c2, c3, c4, c5', a1, a2, a3, c7']
theorem emM {P : List Nat} {out : List (Nat × Nat)} {o v : Nat} (h : CoR I x0 P out) (hx : x0 ≤ 2043) (hl : out.length < 300) : ∃ I', FrS x0 I I' ∧ CoR I' x0 P (out ++ [(o, v)]) ∧ ∀ Q, Rn sc d 194 0 [some (.ref 89), some (.int (nI o)), some (.int (nI v))] [] (K0, I, J, R1 T) Q = Q none (K0, I', J, R1 T) := by
  obtain ⟨h1, h2, h3, h4, h5, h6⟩ := h
  obtain ⟨I', eI⟩ : ∃ X, X = uI (uI (uI I 92 (x0 + 73 + 2 * out.length) (nI o)) 92 (x0 + 73 + 2 * out.length + 1) (nI v)) 89 13 (nI (out.length + 1)) := ⟨_, rfl⟩
  refine ⟨I', fun c k a1 a2 => by rw [eI, uI_n (by omega), uI_n (by omega), uI_n (by omega)], ⟨PlL_c P (fun k _ => by rw [eI, uI_n (by omega), uI_n (by omega), uI_n (by omega)]) h1, by rw [eI, uI_n (by omega), uI_n (by omega), uI_n (by omega)]; exact h2, by rw [eI, uI_n (by omega), uI_n (by omega), uI_n (by omega)]; exact h3, by rw [eI, uI_n (by omega), uI_n (by omega), uI_n (by omega)]; exact h4, by rw [eI, uI_s, List.length_append, List.length_cons, List.length_nil], fun j hj => ?_⟩, fun Q => ?_⟩
  · rw [List.length_append, List.length_cons, List.length_nil] at hj
    by_cases e : j = out.length
    · rw [e, gp_e, eI]
      refine ⟨?_, ?_⟩
      · rw [uI_n (by omega), uI_n (by omega), uI_s]
      · rw [uI_n (by omega), uI_s]
    · rw [gp_a (by omega), eI]
      refine ⟨?_, ?_⟩
      · rw [uI_n (by omega), uI_n (by omega), uI_n (by omega)]
        exact (h6 j (by omega)).1
      · rw [uI_n (by omega), uI_n (by omega), uI_n (by omega)]
        exact (h6 j (by omega)).2
  · have g1 : ∀ v, uI I 92 (x0 + 73 + 2 * out.length) v 89 12 = nI x0 := fun v => by rw [uI_n (by omega)]; exact h4
    have g2 : ∀ v, uI I 92 (x0 + 73 + 2 * out.length) v 89 13 = nI out.length := fun v => by rw [uI_n (by omega)]; exact h5
    have g3 : ∀ v w, uI (uI I 92 (x0 + 73 + 2 * out.length) v) 92 (x0 + 73 + 2 * out.length + 1) w 89 13 = nI out.length := fun v w => by rw [uI_n (by omega), uI_n (by omega)]; exact h5
    have q1 : x0 + 73 + 2 * out.length < 2724 := by omega
    have q2 : x0 + 73 + 2 * out.length + 1 < 2724 := by omega
    rw [eI]
    simp (disch := first | assumption | omega | decide) only [x194_0, x194_1, x194_2, x194_3, x194_4, x194_5, x194_6, x194_7, x194_8, x194_9, x194_10, x194_11, x194_12, x194_13, x194_14, x194_15, x194_16, x194_17, x194_18, x194_19, x194_20, x194_21, x194_22, x194_23, x194_24, x194_25, x194_26, x194_27, x194_28, x194_29, x194_30, x194_31, x194_32, x194_33, x194_34, ↓reduceIte, Option.toList, List.nil_append, List.cons_append, nI_add, pk_mul, n_and, n_or, n_xor, nI_leI, nI_ltI, nI_eq, n_z, uI_s, uI_n, bI_n0, bI_n1, bT, bF, if_true, if_false, not_true, not_false_eq_true, pk_div, pk_rem, Nat.reduceEqDiff, Nat.reduceLeDiff, Nat.reduceLT, Nat.reduceAdd, Nat.reduceMul, Nat.reduceSub, Nat.not_lt_zero, Nat.zero_le, reduceCtorEq, ite_self, n_rem, and_self, and_true, true_and, and_false, false_and, h4, h5, g1, g2, g3]
theorem sp_settle {k : Nat} (hk : 1 ≤ k) (k7 : k ≤ 7) (hx : x0 ≤ 2043) : ∀ (P : List Nat) (out : List (Nat × Nat)) (I : Nat → Nat → Int32), CoR I x0 P out → Wp P → opsN P ≤ 8 → out.length + P.length ≤ 300 → ∃ I', FrS x0 I I' ∧ CoR I' x0 (stl k P out).1 (stl k P out).2 ∧ ∀ Q, Rn sc (d + 1) 199 0 [some (.ref 89), some (.int (nI k))] [] (K0, I, J, R1 T) Q = Q none (K0, I', J, R1 T) := by
  intro P
  induction P with
  | nil =>
    intro out I h _ _ _
    have h2 : I 89 16 = nI 0 := h.2.1
    refine ⟨I, FrS_r, h, fun Q => ?_⟩
    rw [x199_0]
    simp (disch := first | assumption | omega | decide) only [x199_1, x199_2, x199_49, ↓reduceIte, Option.toList, List.nil_append, List.cons_append, nI_add, pk_mul, n_and, n_or, n_xor, nI_leI, nI_ltI, nI_eq, n_z, uI_s, uI_n, bI_n0, bI_n1, bT, bF, if_true, if_false, not_true, not_false_eq_true, pk_div, pk_rem, Nat.reduceEqDiff, Nat.reduceLeDiff, Nat.reduceLT, Nat.reduceAdd, Nat.reduceMul, Nat.reduceSub, Nat.not_lt_zero, Nat.zero_le, reduceCtorEq, ite_self, n_rem, and_self, and_true, true_and, and_false, false_and, h2, Nat.le_refl]
  | cons x P ih =>
    intro out I h hw h8 hl
    have l62 := wp_62 hw h8
    have h2 : I 89 16 = nI (P.length + 1) := h.2.1
    have h3 : I 89 17 = nI (opsN (x :: P)) := h.2.2.1
    have x64 : x < 64 := hw.1
    have e0 : I 94 P.length = nI x := h.1.1
    have r7 := rk_le x
    rw [List.length_cons] at hl l62
    have p0 : ¬ P.length + 1 ≤ 0 := by omega
    have p160 : P.length < 160 := by omega
    have hop : opsN P ≤ 8 := Nat.le_trans op_le h8
    rw [stl]
    by_cases c : k ≤ rk x
    · have c' : ¬ rk x < k := by omega
      have x40 : ¬ 40 ≤ x := fun q => by
        have : rk x = 0 := if_pos q
        omega
      rw [if_pos c]
      -- one taken off
      have core1 : CoR (uI (uI I 89 16 (nI P.length)) 89 17 (nI (opsN P))) x0 P out := by
        obtain ⟨⟨-, a1⟩, -, -, a4, a5, a6⟩ := h
        exact ⟨PlL_c P (fun k _ => by rw [uI_n (by omega), uI_n (by omega)]) a1, by rw [uI_n (by omega), uI_s], uI_s, by rw [uI_n (by omega), uI_n (by omega)]; exact a4, by rw [uI_n (by omega), uI_n (by omega)]; exact a5, fun j hj => ⟨by rw [uI_n (by omega), uI_n (by omega)]; exact (a6 j hj).1, by rw [uI_n (by omega), uI_n (by omega)]; exact (a6 j hj).2⟩⟩
      obtain ⟨I1, eI1⟩ : ∃ X, X = uI I 89 16 (nI P.length) := ⟨_, rfl⟩
      have b16 : I1 89 16 = nI P.length := by rw [eI1, uI_s]
      have b94 : I1 94 P.length = nI x := by rw [eI1, uI_n (by omega)]; exact e0
      have b17 : I1 89 17 = nI (opsN (x :: P)) := by rw [eI1, uI_n (by omega)]; exact h3
      -- what is written, with the pile as it was
      have coreX : CoR (uI I1 89 17 (nI (opsN P))) x0 P out := by rw [eI1]; exact core1
      obtain ⟨I2, eI2⟩ : ∃ X, X = uI (uI (uI I1 92 (x0 + 73 + 2 * out.length) (nI x)) 92 (x0 + 73 + 2 * out.length + 1) (nI 0)) 89 13 (nI (out.length + 1)) := ⟨_, rfl⟩
      have em : ∀ Q, Rn sc d 194 0 [some (.ref 89), some (.int (nI x)), some (.int (nI 0))] [] (K0, I1, J, R1 T) Q = Q none (K0, I2, J, R1 T) := fun Q => by
        have a4 : I1 89 12 = nI x0 := by rw [eI1, uI_n (by omega)]; exact h.2.2.2.1
        have a5 : I1 89 13 = nI out.length := by rw [eI1, uI_n (by omega)]; exact h.2.2.2.2.1
        have g1 : ∀ v, uI I1 92 (x0 + 73 + 2 * out.length) v 89 12 = nI x0 := fun v => by rw [uI_n (by omega)]; exact a4
        have g2 : ∀ v, uI I1 92 (x0 + 73 + 2 * out.length) v 89 13 = nI out.length := fun v => by rw [uI_n (by omega)]; exact a5
        have g3 : ∀ v w, uI (uI I1 92 (x0 + 73 + 2 * out.length) v) 92 (x0 + 73 + 2 * out.length + 1) w 89 13 = nI out.length := fun v w => by rw [uI_n (by omega), uI_n (by omega)]; exact a5
        have q1 : x0 + 73 + 2 * out.length < 2724 := by omega
        have q2 : x0 + 73 + 2 * out.length + 1 < 2724 := by omega
        rw [eI2]
        simp (disch := first | assumption | omega | decide) only [x194_0, x194_1, x194_2, x194_3, x194_4, x194_5, x194_6, x194_7, x194_8, x194_9, x194_10, x194_11, x194_12, x194_13, x194_14, x194_15, x194_16, x194_17, x194_18, x194_19, x194_20, x194_21, x194_22, x194_23, x194_24, x194_25, x194_26, x194_27, x194_28, x194_29, x194_30, x194_31, x194_32, x194_33, x194_34, ↓reduceIte, Option.toList, List.nil_append, List.cons_append, nI_add, pk_mul, n_and, n_or, n_xor, nI_leI, nI_ltI, nI_eq, n_z, uI_s, uI_n, bI_n0, bI_n1, bT, bF, if_true, if_false, not_true, not_false_eq_true, pk_div, pk_rem, Nat.reduceEqDiff, Nat.reduceLeDiff, Nat.reduceLT, Nat.reduceAdd, Nat.reduceMul, Nat.reduceSub, Nat.not_lt_zero, Nat.zero_le, reduceCtorEq, ite_self, n_rem, and_self, and_true, true_and, and_false, false_and, a4, a5, g1, g2, g3]
      have d16 : I2 89 16 = nI P.length := by rw [eI2, uI_n (by omega), uI_n (by omega), uI_n (by omega)]; exact b16
      have d94 : I2 94 P.length = nI x := by rw [eI2, uI_n (by omega), uI_n (by omega), uI_n (by omega)]; exact b94
      have d17 : I2 89 17 = nI (opsN (x :: P)) := by rw [eI2, uI_n (by omega), uI_n (by omega), uI_n (by omega)]; exact b17
      have f2 : FrS x0 I I2 := fun c k a1 a2 => by rw [eI2, uI_n (by omega), uI_n (by omega), uI_n (by omega), eI1, uI_n (by omega)]
      have mk : ∀ I3 : Nat → Nat → Int32, (∀ c k, c ≠ 89 ∨ k ≠ 17 → I3 c k = I2 c k) → I3 89 17 = nI (opsN P) → CoR I3 x0 P (out ++ [(x, 0)]) := fun I3 g g17 => by
        obtain ⟨⟨-, a1⟩, -, -, a4, a5, a6⟩ := h
        refine ⟨PlL_c P (fun k _ => ?_) a1, (g _ _ (by omega)).trans d16, g17, ?_, ?_, fun j hj => ?_⟩
        · rw [g _ _ (by omega), eI2, uI_n (by omega), uI_n (by omega), uI_n (by omega), eI1, uI_n (by omega)]
        · rw [g _ _ (by omega), eI2, uI_n (by omega), uI_n (by omega), uI_n (by omega), eI1, uI_n (by omega)]
          exact a4
        · rw [g _ _ (by omega), eI2, uI_s, List.length_append, List.length_cons, List.length_nil]
        · rw [List.length_append, List.length_cons, List.length_nil] at hj
          rw [g _ _ (by omega), g _ _ (by omega), eI2]
          by_cases e : j = out.length
          · rw [e, gp_e]
            refine ⟨?_, ?_⟩
            · rw [uI_n (by omega), uI_n (by omega), uI_s]
            · rw [uI_n (by omega), uI_s]
          · rw [gp_a (by omega)]
            refine ⟨?_, ?_⟩
            · rw [uI_n (by omega), uI_n (by omega), uI_n (by omega), eI1, uI_n (by omega)]
              exact (a6 j (by omega)).1
            · rw [uI_n (by omega), uI_n (by omega), uI_n (by omega), eI1, uI_n (by omega)]
              exact (a6 j (by omega)).2
      have q1 : ∀ Q, Rn sc (d + 1) 199 0 [some (.ref 89), some (.int (nI k))] [] (K0, I, J, R1 T) Q = Rn sc (d + 1) 199 27 [some (.ref 89), some (.int (nI k))] [] (K0, I2, J, R1 T) Q := fun Q => by
        rw [x199_0]
        have em' := em
        rw [eI1] at em'
        have b16' := b16
        have b94' := b94
        rw [eI1] at b16' b94'
        simp (disch := first | assumption | omega | decide) only [x199_1, x199_2, x199_3, x199_4, x199_5, x199_6, x199_7, x199_8, x199_9, x199_10, x199_11, x199_12, x199_13, x199_14, x199_15, x199_16, x199_17, x199_18, x199_19, x199_20, x199_21, x199_22, x199_23, x199_24, x199_25, x199_26, ↓reduceIte, Option.toList, List.nil_append, List.cons_append, nI_add, pk_mul, n_and, n_or, n_xor, nI_leI, nI_ltI, nI_eq, n_z, uI_s, uI_n, bI_n0, bI_n1, bT, bF, if_true, if_false, not_true, not_false_eq_true, pk_div, pk_rem, Nat.reduceEqDiff, Nat.reduceLeDiff, Nat.reduceLT, Nat.reduceAdd, Nat.reduceMul, Nat.reduceSub, Nat.not_lt_zero, Nat.zero_le, reduceCtorEq, ite_self, n_rem, and_self, and_true, true_and, and_false, false_and, h2, p0, n_sub (show 1 ≤ P.length + 1 by omega), Nat.add_sub_cancel, e0, sp_rank, c', b16', b94', em']
      by_cases c2 : rk x = 7 ∨ x = 20
      · have eo : opsN (x :: P) = opsN P + 1 := by
          show opq x + opsN P = _
          unfold opq
          rw [if_pos (Or.inr c2)]
          omega
        obtain ⟨I4, f4, c4, q4⟩ := ih (out ++ [(x, 0)]) (uI I2 89 17 (nI (opsN P))) (mk _ (fun c k hc => uI_n (by omega)) uI_s) hw.2.2 hop (by rw [List.length_append, List.length_cons, List.length_nil]; omega)
        refine ⟨I4, FrS_t f2 (FrS_t (fun c k a1 a2 => uI_n (by omega)) f4), c4, fun Q => ?_⟩
        rw [q1 Q, ← q4 Q]
        rw [eo] at d17
        by_cases c3 : rk x = 7
        · simp (disch := first | assumption | omega | decide) only [x199_27, x199_28, x199_29, x199_30, x199_31, x199_32, x199_33, x199_34, x199_35, x199_36, x199_37, x199_38, x199_39, x199_40, x199_41, x199_42, x199_43, x199_44, x199_45, x199_46, x199_47, x199_48, ↓reduceIte, Option.toList, List.nil_append, List.cons_append, nI_add, pk_mul, n_and, n_or, n_xor, nI_leI, nI_ltI, nI_eq, n_z, uI_s, uI_n, bI_n0, bI_n1, bT, bF, if_true, if_false, not_true, not_false_eq_true, pk_div, pk_rem, Nat.reduceEqDiff, Nat.reduceLeDiff, Nat.reduceLT, Nat.reduceAdd, Nat.reduceMul, Nat.reduceSub, Nat.not_lt_zero, Nat.zero_le, reduceCtorEq, ite_self, n_rem, and_self, and_true, true_and, and_false, false_and, d16, d94, sp_rank, c3, d17, n_sub (show 1 ≤ opsN P + 1 by omega), Nat.add_sub_cancel]
        · have c5 : x = 20 := by omega
          have d94' := d94
          rw [c5] at d94'
          have rk20 : ¬ rk 20 = 7 := by decide
          simp (disch := first | assumption | omega | decide) only [x199_27, x199_28, x199_29, x199_30, x199_31, x199_32, x199_33, x199_34, x199_35, x199_36, x199_37, x199_38, x199_39, x199_40, x199_41, x199_42, x199_43, x199_44, x199_45, x199_46, x199_47, x199_48, ↓reduceIte, Option.toList, List.nil_append, List.cons_append, nI_add, pk_mul, n_and, n_or, n_xor, nI_leI, nI_ltI, nI_eq, n_z, uI_s, uI_n, bI_n0, bI_n1, bT, bF, if_true, if_false, not_true, not_false_eq_true, pk_div, pk_rem, Nat.reduceEqDiff, Nat.reduceLeDiff, Nat.reduceLT, Nat.reduceAdd, Nat.reduceMul, Nat.reduceSub, Nat.not_lt_zero, Nat.zero_le, reduceCtorEq, ite_self, n_rem, and_self, and_true, true_and, and_false, false_and, d16, d94', sp_rank, rk20, d17, n_sub (show 1 ≤ opsN P + 1 by omega), Nat.add_sub_cancel]
      · have eo : opsN (x :: P) = opsN P := by
          show opq x + opsN P = _
          unfold opq
          rw [if_neg (fun q => q.elim x40 c2)]
          omega
        rw [eo] at d17
        obtain ⟨I4, f4, c4, q4⟩ := ih (out ++ [(x, 0)]) I2 (mk _ (fun c k hc => rfl) d17) hw.2.2 hop (by rw [List.length_append, List.length_cons, List.length_nil]; omega)
        have c3 : ¬ rk x = 7 := fun q => c2 (Or.inl q)
        have c5 : ¬ x = 20 := fun q => c2 (Or.inr q)
        refine ⟨I4, FrS_t f2 f4, c4, fun Q => ?_⟩
        rw [q1 Q, ← q4 Q]
        simp (disch := first | assumption | omega | decide) only [x199_27, x199_28, x199_29, x199_30, x199_31, x199_32, x199_33, x199_34, x199_35, x199_36, x199_37, x199_38, x199_39, x199_40, x199_41, x199_42, x199_43, x199_44, x199_45, x199_46, x199_47, x199_48, ↓reduceIte, Option.toList, List.nil_append, List.cons_append, nI_add, pk_mul, n_and, n_or, n_xor, nI_leI, nI_ltI, nI_eq, n_z, uI_s, uI_n, bI_n0, bI_n1, bT, bF, if_true, if_false, not_true, not_false_eq_true, pk_div, pk_rem, Nat.reduceEqDiff, Nat.reduceLeDiff, Nat.reduceLT, Nat.reduceAdd, Nat.reduceMul, Nat.reduceSub, Nat.not_lt_zero, Nat.zero_le, reduceCtorEq, ite_self, n_rem, and_self, and_true, true_and, and_false, false_and, d16, d94, sp_rank, c3, c5]
    · have c' : rk x < k := by omega
      rw [if_neg c]
      refine ⟨I, FrS_r, h, fun Q => ?_⟩
      rw [x199_0]
      simp (disch := first | assumption | omega | decide) only [x199_1, x199_2, x199_3, x199_4, x199_5, x199_6, x199_7, x199_8, x199_9, x199_10, x199_11, x199_12, x199_49, ↓reduceIte, Option.toList, List.nil_append, List.cons_append, nI_add, pk_mul, n_and, n_or, n_xor, nI_leI, nI_ltI, nI_eq, n_z, uI_s, uI_n, bI_n0, bI_n1, bT, bF, if_true, if_false, not_true, not_false_eq_true, pk_div, pk_rem, Nat.reduceEqDiff, Nat.reduceLeDiff, Nat.reduceLT, Nat.reduceAdd, Nat.reduceMul, Nat.reduceSub, Nat.not_lt_zero, Nat.zero_le, reduceCtorEq, ite_self, n_rem, and_self, and_true, true_and, and_false, false_and, h2, p0, n_sub (show 1 ≤ P.length + 1 by omega), Nat.add_sub_cancel, e0, sp_rank, c']
theorem lp_openAt : ∀ (P : List Nat), PlL I P → (∀ x, x ∈ P → x < 64) → P.length ≤ 150 → ∀ Q, Rn sc d 200 5 [some (.ref 89), some (.int (enB P.length))] [] (K0, I, J, R1 T) Q = Q (some (.int (enB (opI P)))) (K0, I, J, R1 T) := by
  intro P
  induction P with
  | nil =>
    intro _ _ _ Q
    rw [x200_5]
    simp (disch := first | assumption | omega | decide) only [x200_6, x200_15, x200_16, ↓reduceIte, Option.toList, List.nil_append, List.cons_append, nI_add, pk_mul, n_and, n_or, n_xor, nI_leI, nI_ltI, nI_eq, n_z, uI_s, uI_n, bI_n0, bI_n1, bT, bF, if_true, if_false, not_true, not_false_eq_true, pk_div, pk_rem, Nat.reduceEqDiff, Nat.reduceLeDiff, Nat.reduceLT, Nat.reduceAdd, Nat.reduceMul, Nat.reduceSub, Nat.not_lt_zero, Nat.zero_le, reduceCtorEq, ite_self, n_rem, and_self, and_true, true_and, and_false, false_and, show enB ([] : List Nat).length = -1 from rfl, show enB (opI []) = -1 from rfl, show ((-1 : Int32) < nI 0) = True from eq_true (by decide)]
  | cons x P ih =>
    intro h hx hl Q
    rw [List.length_cons] at hl
    have e0 : I 94 P.length = nI x := h.1
    have x64 := hx x (List.mem_cons_self ..)
    have p160 : P.length < 160 := by omega
    have en : enB (x :: P).length = nI P.length := rfl
    rw [en, x200_5]
    by_cases c : 40 ≤ x
    · have eo : opI (x :: P) = P.length + 1 := if_pos c
      rw [eo, enB_s]
      simp (disch := first | assumption | omega | decide) only [x200_6, x200_7, x200_8, x200_9, x200_10, x200_11, x200_12, x200_13, x200_14, x200_15, x200_16, ↓reduceIte, Option.toList, List.nil_append, List.cons_append, nI_add, pk_mul, n_and, n_or, n_xor, nI_leI, nI_ltI, nI_eq, n_z, uI_s, uI_n, bI_n0, bI_n1, bT, bF, if_true, if_false, not_true, not_false_eq_true, pk_div, pk_rem, Nat.reduceEqDiff, Nat.reduceLeDiff, Nat.reduceLT, Nat.reduceAdd, Nat.reduceMul, Nat.reduceSub, Nat.not_lt_zero, Nat.zero_le, reduceCtorEq, ite_self, n_rem, and_self, and_true, true_and, and_false, false_and, e0, c]
    · have eo : opI (x :: P) = opI P := if_neg c
      have nx := ih h.2 (fun y hy => hx y (List.mem_cons_of_mem _ hy)) (by omega) Q
      have e1 : nI P.length + (-1) = enB P.length := by
        cases hP : P.length with
        | zero => decide
        | succ m =>
          rw [enB_s]
          have e2 : nI (m + 1) = nI m + nI 1 := (nI_add ..).symm
          rw [e2, Int32.add_assoc, show (nI 1 : Int32) + (-1) = 0 by decide, Int32.add_zero]
      rw [eo, ← nx]
      simp (disch := first | assumption | omega | decide) only [x200_6, x200_7, x200_8, x200_9, x200_10, x200_11, x200_12, x200_13, x200_14, ↓reduceIte, Option.toList, List.nil_append, List.cons_append, nI_add, pk_mul, n_and, n_or, n_xor, nI_leI, nI_ltI, nI_eq, n_z, uI_s, uI_n, bI_n0, bI_n1, bT, bF, if_true, if_false, not_true, not_false_eq_true, pk_div, pk_rem, Nat.reduceEqDiff, Nat.reduceLeDiff, Nat.reduceLT, Nat.reduceAdd, Nat.reduceMul, Nat.reduceSub, Nat.not_lt_zero, Nat.zero_le, reduceCtorEq, ite_self, n_rem, and_self, and_true, true_and, and_false, false_and, e0, c, e1]
theorem wp_x : ∀ {P : List Nat}, Wp P → ∀ x, x ∈ P → x < 64
  | [], _, x, hx => by cases hx
  | y :: P, h, x, hx => by
    rcases List.mem_cons.mp hx with e | e
    · rw [e]; exact h.1
    · exact wp_x h.2.2 x e
theorem sp_openAt {P : List Nat} {out : List (Nat × Nat)} (h : CoR I x0 P out) (hw : Wp P) (h8 : opsN P ≤ 8) : ∀ Q, Rn sc d 200 0 [some (.ref 89), none] [] (K0, I, J, R1 T) Q = Q (some (.int (enB (opI P)))) (K0, I, J, R1 T) := by
  intro Q
  have l62 := wp_62 hw h8
  have h2 := h.2.1
  have l0 := lp_openAt (sc := sc) (d := d) (J := J) (T := T) P h.1 (wp_x hw) (by omega) Q
  have e1 : nI P.length - nI 1 = enB P.length := by
    cases hP : P.length with
    | zero => decide
    | succ m =>
      rw [enB_s, n_sub (by omega)]
      rfl
  rw [← l0]
  simp (disch := first | assumption | omega | decide) only [x200_0, x200_1, x200_2, x200_3, x200_4, h2, e1]
theorem opI_W : ∀ P : List Nat, (opI P = 0 ↔ opW P = 0) ∧ opI P ≤ P.length ∧ (0 < opI P → PlL I P → I 94 (opI P - 1) = nI (opW P))
  | [] => ⟨⟨fun _ => rfl, fun _ => rfl⟩, Nat.le_refl _, fun h => absurd h (Nat.lt_irrefl 0)⟩
  | x :: P => by
    obtain ⟨h1, h2, h3⟩ := opI_W P
    rw [opI, opW]
    by_cases c : 40 ≤ x
    · rw [if_pos c, if_pos c]
      exact ⟨⟨fun h => by omega, fun h => by omega⟩, Nat.le_refl _, fun _ h => h.1⟩
    · rw [if_neg c, if_neg c]
      exact ⟨h1, Nat.le_succ_of_le h2, fun h t => h3 h t.2⟩
theorem opW_lt : ∀ {P : List Nat}, Wp P → opW P < 64
  | [], _ => by decide
  | x :: P, h => by
    rw [opW]
    split
    · exact h.1
    · exact opW_lt h.2.2
def onI (w : Nat) : Int32 := if w = 0 then -1 else nI w
theorem sp_openNow {P : List Nat} {out : List (Nat × Nat)} (h : CoR I x0 P out) (hw : Wp P) (h8 : opsN P ≤ 8) : ∀ Q, Rn sc (d + 1) 201 0 [some (.ref 89)] [] (K0, I, J, R1 T) Q = Q (some (.int (onI (opW P)))) (K0, I, J, R1 T) := by
  intro Q
  have l62 := wp_62 hw h8
  obtain ⟨o1, o2, o3⟩ := opI_W (I := I) P
  have oa := sp_openAt (sc := sc) (d := d) (J := J) (T := T) h hw h8
  unfold onI
  by_cases c : opI P = 0
  · rw [if_pos (o1.mp c)]
    rw [c, enB_0] at oa
    simp (disch := first | assumption | omega | decide) only [x201_0, x201_1, x201_2, x201_3, x201_4, x201_5, x201_6, x201_7, x201_8, x201_9, x201_10, ↓reduceIte, Option.toList, List.nil_append, List.cons_append, nI_add, pk_mul, n_and, n_or, n_xor, nI_leI, nI_ltI, nI_eq, n_z, uI_s, uI_n, bI_n0, bI_n1, bT, bF, if_true, if_false, not_true, not_false_eq_true, pk_div, pk_rem, Nat.reduceEqDiff, Nat.reduceLeDiff, Nat.reduceLT, Nat.reduceAdd, Nat.reduceMul, Nat.reduceSub, Nat.not_lt_zero, Nat.zero_le, reduceCtorEq, ite_self, n_rem, and_self, and_true, true_and, and_false, false_and, oa, show (nI 0 ≤ (-1 : Int32)) = False from eq_false (by decide)]
  · rw [if_neg (fun q => c (o1.mpr q))]
    obtain ⟨m, em⟩ : ∃ m, opI P = m + 1 := ⟨opI P - 1, by omega⟩
    have o3' := o3 (by omega) h.1
    rw [em, Nat.add_sub_cancel] at o3'
    rw [em, enB_s] at oa
    have m160 : m < 160 := by omega
    simp (disch := first | assumption | omega | decide) only [x201_0, x201_1, x201_2, x201_3, x201_4, x201_5, x201_6, x201_7, x201_8, x201_9, x201_10, ↓reduceIte, Option.toList, List.nil_append, List.cons_append, nI_add, pk_mul, n_and, n_or, n_xor, nI_leI, nI_ltI, nI_eq, n_z, uI_s, uI_n, bI_n0, bI_n1, bT, bF, if_true, if_false, not_true, not_false_eq_true, pk_div, pk_rem, Nat.reduceEqDiff, Nat.reduceLeDiff, Nat.reduceLT, Nat.reduceAdd, Nat.reduceMul, Nat.reduceSub, Nat.not_lt_zero, Nat.zero_le, reduceCtorEq, ite_self, n_rem, and_self, and_true, true_and, and_false, false_and, oa, o3']
theorem lp_comp : ∀ (P : List Nat), PlL I P → (∀ x, x ∈ P → x < 64) → P.length ≤ 150 → ∀ Q, Rn sc (d + 1) 202 5 [some (.ref 89), some (.int (enB P.length))] [] (K0, I, J, R1 T) Q = Q (some (.int (bI (isCm P = true)))) (K0, I, J, R1 T) := by
  intro P
  induction P with
  | nil =>
    intro _ _ _ Q
    rw [x202_5, bI_f (show ¬ isCm [] = true by decide)]
    simp (disch := first | assumption | omega | decide) only [x202_6, x202_16, x202_17, x202_27, x202_28, ↓reduceIte, Option.toList, List.nil_append, List.cons_append, nI_add, pk_mul, n_and, n_or, n_xor, nI_leI, nI_ltI, nI_eq, n_z, uI_s, uI_n, bI_n0, bI_n1, bT, bF, if_true, if_false, not_true, not_false_eq_true, pk_div, pk_rem, Nat.reduceEqDiff, Nat.reduceLeDiff, Nat.reduceLT, Nat.reduceAdd, Nat.reduceMul, Nat.reduceSub, Nat.not_lt_zero, Nat.zero_le, reduceCtorEq, ite_self, n_rem, and_self, and_true, true_and, and_false, false_and, show enB ([] : List Nat).length = -1 from rfl, show ((-1 : Int32) < nI 0) = True from eq_true (by decide)]
  | cons x P ih =>
    intro h hx hl Q
    rw [List.length_cons] at hl
    have e0 : I 94 P.length = nI x := h.1
    have x64 := hx x (List.mem_cons_self ..)
    have p160 : P.length < 160 := by omega
    have r7 := rk_le x
    have en : enB (x :: P).length = nI P.length := rfl
    rw [en, x202_5]
    by_cases c : 4 < rk x
    · have c' : ¬ rk x ≤ 4 := by omega
      have eo : isCm (x :: P) = isCm P := if_pos c
      have nx := ih h.2 (fun y hy => hx y (List.mem_cons_of_mem _ hy)) (by omega) Q
      have e1 : nI P.length + (-1) = enB P.length := by
        cases hP : P.length with
        | zero => decide
        | succ m =>
          rw [enB_s]
          have e2 : nI (m + 1) = nI m + nI 1 := (nI_add ..).symm
          rw [e2, Int32.add_assoc, show (nI 1 : Int32) + (-1) = 0 by decide, Int32.add_zero]
      rw [eo, ← nx]
      simp (disch := first | assumption | omega | decide) only [x202_6, x202_7, x202_8, x202_9, x202_10, x202_11, x202_12, x202_13, x202_14, x202_15, ↓reduceIte, Option.toList, List.nil_append, List.cons_append, nI_add, pk_mul, n_and, n_or, n_xor, nI_leI, nI_ltI, nI_eq, n_z, uI_s, uI_n, bI_n0, bI_n1, bT, bF, if_true, if_false, not_true, not_false_eq_true, pk_div, pk_rem, Nat.reduceEqDiff, Nat.reduceLeDiff, Nat.reduceLT, Nat.reduceAdd, Nat.reduceMul, Nat.reduceSub, Nat.not_lt_zero, Nat.zero_le, reduceCtorEq, ite_self, n_rem, and_self, and_true, true_and, and_false, false_and, e0, sp_rank, c', e1]
    · have c' : rk x ≤ 4 := by omega
      have eo : isCm (x :: P) = decide (rk x = 4) := if_neg c
      rw [eo]
      by_cases c2 : rk x = 4
      · rw [bI_t (decide_eq_true c2)]
        simp (disch := first | assumption | omega | decide) only [x202_6, x202_7, x202_8, x202_9, x202_10, x202_11, x202_12, x202_13, x202_14, x202_15, x202_16, x202_17, x202_18, x202_19, x202_20, x202_21, x202_22, x202_23, x202_24, x202_25, x202_26, x202_27, x202_28, ↓reduceIte, Option.toList, List.nil_append, List.cons_append, nI_add, pk_mul, n_and, n_or, n_xor, nI_leI, nI_ltI, nI_eq, n_z, uI_s, uI_n, bI_n0, bI_n1, bT, bF, if_true, if_false, not_true, not_false_eq_true, pk_div, pk_rem, Nat.reduceEqDiff, Nat.reduceLeDiff, Nat.reduceLT, Nat.reduceAdd, Nat.reduceMul, Nat.reduceSub, Nat.not_lt_zero, Nat.zero_le, reduceCtorEq, ite_self, n_rem, and_self, and_true, true_and, and_false, false_and, e0, sp_rank, c2, Nat.le_refl]
      · rw [bI_f (fun q => c2 (of_decide_eq_true q))]
        simp (disch := first | assumption | omega | decide) only [x202_6, x202_7, x202_8, x202_9, x202_10, x202_11, x202_12, x202_13, x202_14, x202_15, x202_16, x202_17, x202_18, x202_19, x202_20, x202_21, x202_22, x202_23, x202_24, x202_25, x202_26, x202_27, x202_28, ↓reduceIte, Option.toList, List.nil_append, List.cons_append, nI_add, pk_mul, n_and, n_or, n_xor, nI_leI, nI_ltI, nI_eq, n_z, uI_s, uI_n, bI_n0, bI_n1, bT, bF, if_true, if_false, not_true, not_false_eq_true, pk_div, pk_rem, Nat.reduceEqDiff, Nat.reduceLeDiff, Nat.reduceLT, Nat.reduceAdd, Nat.reduceMul, Nat.reduceSub, Nat.not_lt_zero, Nat.zero_le, reduceCtorEq, ite_self, n_rem, and_self, and_true, true_and, and_false, false_and, e0, sp_rank, c', c2]
theorem sp_comp {P : List Nat} {out : List (Nat × Nat)} (h : CoR I x0 P out) (hw : Wp P) (h8 : opsN P ≤ 8) : ∀ Q, Rn sc (d + 1) 202 0 [some (.ref 89), none] [] (K0, I, J, R1 T) Q = Q (some (.int (bI (isCm P = true)))) (K0, I, J, R1 T) := by
  intro Q
  have l62 := wp_62 hw h8
  have h2 := h.2.1
  have l0 := lp_comp (sc := sc) (d := d) (J := J) (T := T) P h.1 (wp_x hw) (by omega) Q
  have e1 : nI P.length - nI 1 = enB P.length := by
    cases hP : P.length with
    | zero => decide
    | succ m =>
      rw [enB_s, n_sub (by omega)]
      rfl
  rw [← l0]
  simp (disch := first | assumption | omega | decide) only [x202_0, x202_1, x202_2, x202_3, x202_4, h2, e1]
theorem sp_askA {P : List Nat} {out : List (Nat × Nat)} (h : CoR I x0 P out) (hw : Wp P) (h8 : opsN P ≤ 8) : ∀ Q, Rn sc (d + 2) 203 0 [some (.ref 89)] [] (K0, I, J, R1 T) Q = Q (some (.int (bI (askA P = true)))) (K0, I, J, R1 T) := by
  intro Q
  have l62 := wp_62 hw h8
  have on := sp_openNow (sc := sc) (d := d) (J := J) (T := T) h hw h8
  have h2 := h.2.1
  cases P with
  | nil =>
    rw [bI_f (show ¬ askA [] = true by decide)]
    have on' : ∀ Q, Rn sc (d + 1) 201 0 [some (.ref 89)] [] (K0, I, J, R1 T) Q = Q (some (.int (-1))) (K0, I, J, R1 T) := on
    simp (disch := first | assumption | omega | decide) only [x203_0, x203_1, x203_2, x203_3, x203_27, x203_28, ↓reduceIte, Option.toList, List.nil_append, List.cons_append, nI_add, pk_mul, n_and, n_or, n_xor, nI_leI, nI_ltI, nI_eq, n_z, uI_s, uI_n, bI_n0, bI_n1, bT, bF, if_true, if_false, not_true, not_false_eq_true, pk_div, pk_rem, Nat.reduceEqDiff, Nat.reduceLeDiff, Nat.reduceLT, Nat.reduceAdd, Nat.reduceMul, Nat.reduceSub, Nat.not_lt_zero, Nat.zero_le, reduceCtorEq, ite_self, n_rem, and_self, and_true, true_and, and_false, false_and, on', n_m1e']
  | cons x P =>
    have e0 : I 94 P.length = nI x := h.1.1
    have x64 : x < 64 := hw.1
    have r7 := rk_le x
    rw [List.length_cons] at l62 h2
    have p160 : P.length < 160 := by omega
    have ol := opW_lt hw
    have ea : askA (x :: P) = (decide (opW (x :: P) = 42) && (decide (40 ≤ x) || decide (1 ≤ rk x ∧ rk x ≤ 3))) := rfl
    by_cases c : opW (x :: P) = 42
    · have on' : ∀ Q, Rn sc (d + 1) 201 0 [some (.ref 89)] [] (K0, I, J, R1 T) Q = Q (some (.int (nI 42))) (K0, I, J, R1 T) := fun Q => by
        rw [on Q, c]
        rfl
      rw [ea, decide_eq_true c, Bool.true_and]
      by_cases c1 : 40 ≤ x
      · rw [decide_eq_true c1, Bool.true_or, bI_t rfl]
        simp (disch := first | assumption | omega | decide) only [x203_0, x203_1, x203_2, x203_3, x203_4, x203_5, x203_6, x203_7, x203_8, x203_9, x203_10, x203_11, x203_12, x203_13, x203_14, x203_15, x203_16, x203_17, x203_18, x203_19, x203_20, x203_21, x203_22, x203_23, x203_24, x203_25, x203_26, x203_27, x203_28, ↓reduceIte, Option.toList, List.nil_append, List.cons_append, nI_add, pk_mul, n_and, n_or, n_xor, nI_leI, nI_ltI, nI_eq, n_z, uI_s, uI_n, bI_n0, bI_n1, bT, bF, if_true, if_false, not_true, not_false_eq_true, pk_div, pk_rem, Nat.reduceEqDiff, Nat.reduceLeDiff, Nat.reduceLT, Nat.reduceAdd, Nat.reduceMul, Nat.reduceSub, Nat.not_lt_zero, Nat.zero_le, reduceCtorEq, ite_self, n_rem, and_self, and_true, true_and, and_false, false_and, on', h2, n_sub (show 1 ≤ P.length + 1 by omega), Nat.add_sub_cancel, e0, c1]
      · rw [decide_eq_false c1, Bool.false_or]
        have wi : ∀ Q, Rn sc (d + 1) 169 0 [some (.int (nI (rk x))), some (.int (nI 1)), some (.int (nI 3))] [] (K0, I, J, R1 T) Q = Q (some (.int (bI (nI 1 ≤ nI (rk x) ∧ nI (rk x) ≤ nI 3)))) (K0, I, J, R1 T) := fun Q => sp_isIn
        have wq : (nI 1 ≤ nI (rk x) ∧ nI (rk x) ≤ nI 3) ↔ (1 ≤ rk x ∧ rk x ≤ 3) := by
          rw [nI_leI (by omega) (by omega), nI_leI (by omega) (by omega)]
        by_cases c2 : 1 ≤ rk x ∧ rk x ≤ 3
        · rw [bI_t (decide_eq_true c2)]
          rw [bI_t (wq.mpr c2)] at wi
          simp (disch := first | assumption | omega | decide) only [x203_0, x203_1, x203_2, x203_3, x203_4, x203_5, x203_6, x203_7, x203_8, x203_9, x203_10, x203_11, x203_12, x203_13, x203_14, x203_15, x203_16, x203_17, x203_18, x203_19, x203_20, x203_21, x203_22, x203_23, x203_24, x203_25, x203_26, x203_27, x203_28, ↓reduceIte, Option.toList, List.nil_append, List.cons_append, nI_add, pk_mul, n_and, n_or, n_xor, nI_leI, nI_ltI, nI_eq, n_z, uI_s, uI_n, bI_n0, bI_n1, bT, bF, if_true, if_false, not_true, not_false_eq_true, pk_div, pk_rem, Nat.reduceEqDiff, Nat.reduceLeDiff, Nat.reduceLT, Nat.reduceAdd, Nat.reduceMul, Nat.reduceSub, Nat.not_lt_zero, Nat.zero_le, reduceCtorEq, ite_self, n_rem, and_self, and_true, true_and, and_false, false_and, on', h2, n_sub (show 1 ≤ P.length + 1 by omega), Nat.add_sub_cancel, e0, c1, sp_rank, wi]
        · rw [bI_f (fun q => c2 (of_decide_eq_true q))]
          rw [bI_f (fun q => c2 (wq.mp q))] at wi
          simp (disch := first | assumption | omega | decide) only [x203_0, x203_1, x203_2, x203_3, x203_4, x203_5, x203_6, x203_7, x203_8, x203_9, x203_10, x203_11, x203_12, x203_13, x203_14, x203_15, x203_16, x203_17, x203_18, x203_19, x203_20, x203_21, x203_22, x203_23, x203_24, x203_25, x203_26, x203_27, x203_28, ↓reduceIte, Option.toList, List.nil_append, List.cons_append, nI_add, pk_mul, n_and, n_or, n_xor, nI_leI, nI_ltI, nI_eq, n_z, uI_s, uI_n, bI_n0, bI_n1, bT, bF, if_true, if_false, not_true, not_false_eq_true, pk_div, pk_rem, Nat.reduceEqDiff, Nat.reduceLeDiff, Nat.reduceLT, Nat.reduceAdd, Nat.reduceMul, Nat.reduceSub, Nat.not_lt_zero, Nat.zero_le, reduceCtorEq, ite_self, n_rem, and_self, and_true, true_and, and_false, false_and, on', h2, n_sub (show 1 ≤ P.length + 1 by omega), Nat.add_sub_cancel, e0, c1, sp_rank, wi]
    · rw [ea, decide_eq_false c, Bool.false_and, bI_f ffN]
      have c' : ¬ onI (opW (x :: P)) = nI 42 := fun q => by
        unfold onI at q
        split at q
        · exact absurd q (by decide)
        · rw [nI_eq (by omega) (by omega)] at q
          exact c q
      simp (disch := first | assumption | omega | decide) only [x203_0, x203_1, x203_2, x203_3, x203_27, x203_28, ↓reduceIte, Option.toList, List.nil_append, List.cons_append, nI_add, pk_mul, n_and, n_or, n_xor, nI_leI, nI_ltI, nI_eq, n_z, uI_s, uI_n, bI_n0, bI_n1, bT, bF, if_true, if_false, not_true, not_false_eq_true, pk_div, pk_rem, Nat.reduceEqDiff, Nat.reduceLeDiff, Nat.reduceLT, Nat.reduceAdd, Nat.reduceMul, Nat.reduceSub, Nat.not_lt_zero, Nat.zero_le, reduceCtorEq, ite_self, n_rem, and_self, and_true, true_and, and_false, false_and, on, c']
end RefM
