/-! floods and measures of both sides -/
def BsC (I : Nat → Nat → Int32) (A : Nat → Nat) : Prop := ∀ h, h < 8 → I 4 h = nI (bes A h)
theorem and255 {x : Nat} (h : x < 256) : x &&& 255 = x := by
  have := Nat.and_two_pow_sub_one_eq_mod x 8
  rw [show 2 ^ 8 - 1 = 255 from rfl] at this
  rw [this]
  exact Nat.mod_eq_of_lt h
theorem ng_I {x : Nat} : nI x ^^^ (-1) = nI (x ^^^ 4294967295) := by rw [n_m1, n_xor]
theorem nxt_lt {A : Nat → Nat} {s : Nat} (w : Wf A) : nxt A s < 256 := nxN_lt w 8
theorem ed_c {A : Nat → Nat} {a n : Nat} (w : Wf A) : nxt A (ed A 255 a n) &&& (bl A 255 a n ^^^ 4294967295) = ed A 255 a (n + 1) := by
  rw [ed, and255 (nxt_lt w)]
/-- what was seen ahead of the n-th layer -/
def sn (A : Nat → Nat) (a : Nat) : Nat → Nat
  | 0 => 0
  | n + 1 => bl A 255 a n
theorem sn_o {A : Nat → Nat} {a n : Nat} (ha : a < 8) : sn A a n ||| ed A 255 a n = bl A 255 a n := by
  cases n with
  | zero => exact Nat.zero_or _
  | succ n => exact (bl_d ha (by decide) n).symm
section Flood
variable {sc : Sc} {d : Nat} {J : Nat → Nat → Int64} {T : Option Nat} {A : Nat → Nat}
theorem sp_joins {I : Nat → Nat → Int32} {Q : Option Value → Mm → Prop} {a b : Nat} (ha : a < 8) (hb : b < 8) (w : Wf A) (e : BsC I A) : Rn sc d 59 0 [some (.ref 72), some (.int (nI a)), some (.int (nI b))] [] (K0, I, J, R1 T) Q = Q (some (.int (bI (bes A a / 2 ^ b % 2 = 1)))) (K0, I, J, R1 T) := by
  have e0 := e a ha
  have l : bes A a < 256 := bes_lt w
  by_cases c : bes A a / 2 ^ b % 2 = 1
  · rw [bI_t c]
    simp (disch := first | assumption | omega | decide) only [x59_0, x59_1, x59_2, x59_3, x59_4, x59_5, x59_6, x59_7, x59_8, x59_9, x59_10, x59_11, x59_12, x59_13, x59_14, ↓reduceIte, Option.toList, List.nil_append, List.cons_append, nI_add, pk_mul, n_and, n_or, n_xor, nI_leI, nI_ltI, nI_eq, n_z, uI_s, uI_n, bI_n0, bI_n1, bT, bF, if_true, if_false, not_true, not_false_eq_true, pk_div, pk_rem, Nat.reduceEqDiff, Nat.reduceLeDiff, Nat.reduceLT, Nat.reduceAdd, Nat.reduceMul, Nat.reduceSub, Nat.not_lt_zero, Nat.zero_le, reduceCtorEq, ite_self, n_rem, and_self, and_true, true_and, and_false, false_and, e0, n_bit, c]
  · rw [bI_f c]
    simp (disch := first | assumption | omega | decide) only [x59_0, x59_1, x59_2, x59_3, x59_4, x59_5, x59_6, x59_7, x59_8, x59_9, x59_10, x59_11, x59_12, x59_13, x59_14, ↓reduceIte, Option.toList, List.nil_append, List.cons_append, nI_add, pk_mul, n_and, n_or, n_xor, nI_leI, nI_ltI, nI_eq, n_z, uI_s, uI_n, bI_n0, bI_n1, bT, bF, if_true, if_false, not_true, not_false_eq_true, pk_div, pk_rem, Nat.reduceEqDiff, Nat.reduceLeDiff, Nat.reduceLT, Nat.reduceAdd, Nat.reduceMul, Nat.reduceSub, Nat.not_lt_zero, Nat.zero_le, reduceCtorEq, ite_self, n_rem, and_self, and_true, true_and, and_false, false_and, e0, n_bit, c]
theorem sp_any {I : Nat → Nat → Int32} {Q : Option Value → Mm → Prop} {s : Nat} {u2 u3 : Option Value} (hs : s < 256) (e : BsC I A) : Rn sc d 60 0 [some (.ref 72), some (.int (nI s)), u2, u3] [] (K0, I, J, R1 T) Q = Q (some (.int (nI (nxt A s)))) (K0, I, J, R1 T) := by
  have h := iter0 (fun j => Rn sc d 60 4 [some (.ref 72), some (.int (nI s)), some (.int (nI (nxN A s j))), some (.int (nI j))] [] (K0, I, J, R1 T) Q) 8 (by
    intro j hj
    show Rn _ _ _ _ _ _ _ _ = Rn _ _ _ _ _ _ _ _
    have e0 := e j hj
    have lj : ¬ 8 ≤ j := by omega
    rw [x60_4, nxN]
    by_cases c : s / 2 ^ j % 2 = 1
    · rw [if_pos c]
      simp (disch := first | assumption | omega | decide) only [x60_0, x60_1, x60_2, x60_3, x60_5, x60_6, x60_7, x60_8, x60_9, x60_10, x60_11, x60_12, x60_13, x60_14, x60_15, x60_16, x60_17, x60_18, x60_19, x60_20, x60_21, x60_22, x60_23, x60_24, x60_25, ↓reduceIte, Option.toList, List.nil_append, List.cons_append, nI_add, pk_mul, n_and, n_or, n_xor, nI_leI, nI_ltI, nI_eq, n_z, uI_s, uI_n, bI_n0, bI_n1, bT, bF, if_true, if_false, not_true, not_false_eq_true, pk_div, pk_rem, Nat.reduceEqDiff, Nat.reduceLeDiff, Nat.reduceLT, Nat.reduceAdd, Nat.reduceMul, Nat.reduceSub, Nat.not_lt_zero, Nat.zero_le, reduceCtorEq, ite_self, n_rem, and_self, and_true, true_and, and_false, false_and, lj, n_bit, c, e0]
    · rw [if_neg c, Nat.or_zero]
      simp (disch := first | assumption | omega | decide) only [x60_0, x60_1, x60_2, x60_3, x60_5, x60_6, x60_7, x60_8, x60_9, x60_10, x60_11, x60_12, x60_13, x60_14, x60_15, x60_16, x60_17, x60_18, x60_19, x60_20, x60_21, x60_22, x60_23, x60_24, x60_25, ↓reduceIte, Option.toList, List.nil_append, List.cons_append, nI_add, pk_mul, n_and, n_or, n_xor, nI_leI, nI_ltI, nI_eq, n_z, uI_s, uI_n, bI_n0, bI_n1, bT, bF, if_true, if_false, not_true, not_false_eq_true, pk_div, pk_rem, Nat.reduceEqDiff, Nat.reduceLeDiff, Nat.reduceLT, Nat.reduceAdd, Nat.reduceMul, Nat.reduceSub, Nat.not_lt_zero, Nat.zero_le, reduceCtorEq, ite_self, n_rem, and_self, and_true, true_and, and_false, false_and, lj, n_bit, c, e0])
  simp (disch := first | assumption | omega | decide) only [x60_0, x60_1, x60_2, x60_3, x60_5, x60_6, x60_7, x60_8, x60_9, x60_10, x60_11, x60_12, x60_13, x60_14, x60_15, x60_16, x60_17, x60_18, x60_19, x60_20, x60_21, x60_22, x60_23, x60_24, x60_25]
  refine Eq.trans h ?_
  show Rn _ _ _ _ _ _ _ _ = _
  rw [x60_4]
  simp (disch := first | assumption | omega | decide) only [x60_0, x60_1, x60_2, x60_3, x60_5, x60_6, x60_7, x60_8, x60_9, x60_10, x60_11, x60_12, x60_13, x60_14, x60_15, x60_16, x60_17, x60_18, x60_19, x60_20, x60_21, x60_22, x60_23, x60_24, x60_25, ↓reduceIte, Option.toList, List.nil_append, List.cons_append, nI_add, pk_mul, n_and, n_or, n_xor, nI_leI, nI_ltI, nI_eq, n_z, uI_s, uI_n, bI_n0, bI_n1, bT, bF, if_true, if_false, not_true, not_false_eq_true, pk_div, pk_rem, Nat.reduceEqDiff, Nat.reduceLeDiff, Nat.reduceLT, Nat.reduceAdd, Nat.reduceMul, Nat.reduceSub, Nat.not_lt_zero, Nat.zero_le, reduceCtorEq, ite_self, n_rem, and_self, and_true, true_and, and_false, false_and, Nat.le_refl]
  rfl
theorem sp_flood {I : Nat → Nat → Int32} {Q : Option Value → Mm → Prop} {a m : Nat} (ha : a < 8) (hm : m < 256) (e : BsC I A) : Rn sc (d + 1) 61 0 [some (.ref 72), some (.int (nI a)), some (.int (nI m)), none, none] [] (K0, I, J, R1 T) Q = Q (some (.int (nI (bl A m a 7)))) (K0, I, J, R1 T) := by
  have h := iter0 (fun j => Rn sc (d + 1) 61 6 [some (.ref 72), some (.int (nI a)), some (.int (nI m)), some (.int (nI (bl A m a j))), some (.int (nI (1 + j)))] [] (K0, I, J, R1 T) Q) 7 (by
    intro j hj
    show Rn _ _ _ _ _ _ _ _ = Rn _ _ _ _ _ _ _ _
    have lj : ¬ 8 ≤ 1 + j := by omega
    have lb := bl_lt (A := A) ha hm j
    rw [x61_6, bl]
    simp (disch := first | assumption | omega | decide) only [x61_0, x61_1, x61_2, x61_3, x61_4, x61_5, x61_7, x61_8, x61_9, x61_10, x61_11, x61_12, x61_13, x61_14, x61_15, x61_16, x61_17, x61_18, x61_19, x61_20, ↓reduceIte, Option.toList, List.nil_append, List.cons_append, nI_add, pk_mul, n_and, n_or, n_xor, nI_leI, nI_ltI, nI_eq, n_z, uI_s, uI_n, bI_n0, bI_n1, bT, bF, if_true, if_false, not_true, not_false_eq_true, pk_div, pk_rem, Nat.reduceEqDiff, Nat.reduceLeDiff, Nat.reduceLT, Nat.reduceAdd, Nat.reduceMul, Nat.reduceSub, Nat.not_lt_zero, Nat.zero_le, reduceCtorEq, ite_self, n_rem, and_self, and_true, true_and, and_false, false_and, lj, sp_any lb e, Nat.add_assoc])
  simp (disch := first | assumption | omega | decide) only [x61_0, x61_1, x61_2, x61_3, x61_4, x61_5, x61_7, x61_8, x61_9, x61_10, x61_11, x61_12, x61_13, x61_14, x61_15, x61_16, x61_17, x61_18, x61_19, x61_20, n_one, ↓reduceIte, Option.toList, List.nil_append, List.cons_append, nI_add, pk_mul, n_and, n_or, n_xor, nI_leI, nI_ltI, nI_eq, n_z, uI_s, uI_n, bI_n0, bI_n1, bT, bF, if_true, if_false, not_true, not_false_eq_true, pk_div, pk_rem, Nat.reduceEqDiff, Nat.reduceLeDiff, Nat.reduceLT, Nat.reduceAdd, Nat.reduceMul, Nat.reduceSub, Nat.not_lt_zero, Nat.zero_le, reduceCtorEq, ite_self, n_rem, and_self, and_true, true_and, and_false, false_and]
  refine Eq.trans h ?_
  show Rn _ _ _ _ _ _ _ _ = _
  rw [x61_6]
  simp (disch := first | assumption | omega | decide) only [x61_0, x61_1, x61_2, x61_3, x61_4, x61_5, x61_7, x61_8, x61_9, x61_10, x61_11, x61_12, x61_13, x61_14, x61_15, x61_16, x61_17, x61_18, x61_19, x61_20, ↓reduceIte, Option.toList, List.nil_append, List.cons_append, nI_add, pk_mul, n_and, n_or, n_xor, nI_leI, nI_ltI, nI_eq, n_z, uI_s, uI_n, bI_n0, bI_n1, bT, bF, if_true, if_false, not_true, not_false_eq_true, pk_div, pk_rem, Nat.reduceEqDiff, Nat.reduceLeDiff, Nat.reduceLT, Nat.reduceAdd, Nat.reduceMul, Nat.reduceSub, Nat.not_lt_zero, Nat.zero_le, reduceCtorEq, ite_self, n_rem, and_self, and_true, true_and, and_false, false_and, Nat.le_refl]
theorem sp_wholeC {I : Nat → Nat → Int32} {Q : Option Value → Mm → Prop} (e : BsC I A) : Rn sc (d + 2) 62 0 [some (.ref 72)] [] (K0, I, J, R1 T) Q = Q (some (.int (bI (bl A 255 0 7 = 255)))) (K0, I, J, R1 T) := by
  have lb := bl_lt (A := A) (m := 255) (a := 0) (by decide) (by decide) 7
  have hf := fun Q => sp_flood (Q := Q) (sc := sc) (d := d) (J := J) (T := T) (a := 0) (m := 255) (by decide) (by decide) e
  by_cases c : bl A 255 0 7 = 255
  · rw [bI_t c]
    simp (disch := first | assumption | omega | decide) only [x62_0, x62_1, x62_2, x62_3, x62_4, x62_5, x62_6, x62_7, x62_8, x62_9, ↓reduceIte, Option.toList, List.nil_append, List.cons_append, nI_add, pk_mul, n_and, n_or, n_xor, nI_leI, nI_ltI, nI_eq, n_z, uI_s, uI_n, bI_n0, bI_n1, bT, bF, if_true, if_false, not_true, not_false_eq_true, pk_div, pk_rem, Nat.reduceEqDiff, Nat.reduceLeDiff, Nat.reduceLT, Nat.reduceAdd, Nat.reduceMul, Nat.reduceSub, Nat.not_lt_zero, Nat.zero_le, reduceCtorEq, ite_self, n_rem, and_self, and_true, true_and, and_false, false_and, hf, c]
  · rw [bI_f c]
    simp (disch := first | assumption | omega | decide) only [x62_0, x62_1, x62_2, x62_3, x62_4, x62_5, x62_6, x62_7, x62_8, x62_9, ↓reduceIte, Option.toList, List.nil_append, List.cons_append, nI_add, pk_mul, n_and, n_or, n_xor, nI_leI, nI_ltI, nI_eq, n_z, uI_s, uI_n, bI_n0, bI_n1, bT, bF, if_true, if_false, not_true, not_false_eq_true, pk_div, pk_rem, Nat.reduceEqDiff, Nat.reduceLeDiff, Nat.reduceLT, Nat.reduceAdd, Nat.reduceMul, Nat.reduceSub, Nat.not_lt_zero, Nat.zero_le, reduceCtorEq, ite_self, n_rem, and_self, and_true, true_and, and_false, false_and, hf, c]
theorem ms_init {I : Nat → Nat → Int32} {a p q : Nat} {u : Option Value} (ha : a < 8) : ∃ I', (∀ h, h < 8 → I' 73 (a * 8 + h) = -1) ∧ (∀ c k, (c ≠ 73 ∨ k < a * 8 ∨ a * 8 + 8 ≤ k) → I' c k = I c k) ∧ ∀ Q, Rn sc d 63 13 [some (.ref 72), some (.int (nI a)), some (.int (nI p)), some (.int (nI q)), some (.int (nI 0)), u] [] (K0, I, J, R1 T) Q = Rn sc d 63 13 [some (.ref 72), some (.int (nI a)), some (.int (nI p)), some (.int (nI q)), some (.int (nI 8)), u] [] (K0, I', J, R1 T) Q := by
  obtain ⟨I', ⟨h1, h2⟩, h3⟩ := iterE (fun j I' => (∀ h, h < j → I' 73 (a * 8 + h) = -1) ∧ ∀ c k, (c ≠ 73 ∨ k < a * 8 ∨ a * 8 + 8 ≤ k) → I' c k = I c k) (fun j I' => fun Q => Rn sc d 63 13 [some (.ref 72), some (.int (nI a)), some (.int (nI p)), some (.int (nI q)), some (.int (nI j)), u] [] (K0, I', J, R1 T) Q) 8 (by
    rintro j I1 hj ⟨k1, f1⟩
    have lj : ¬ 8 ≤ j := by omega
    refine ⟨uI I1 73 (a * 8 + j) (-1), ⟨fun h hh => ?_, fun c k hc => (uI_n (by omega)).trans (f1 c k hc)⟩, funext fun Q => ?_⟩
    · by_cases e : h = j
      · rw [e, uI_s]
      · rw [uI_n (by omega)]
        exact k1 h (by omega)
    · show Rn _ _ _ _ _ _ _ _ = Rn _ _ _ _ _ _ _ _
      rw [x63_13]
      simp (disch := first | assumption | omega | decide) only [x63_0, x63_1, x63_3, x63_4, x63_5, x63_6, x63_7, x63_8, x63_9, x63_10, x63_11, x63_12, x63_14, x63_15, x63_16, x63_17, x63_18, x63_19, x63_20, x63_21, x63_22, x63_23, x63_24, x63_25, x63_26, x63_27, x63_28, x63_30, x63_31, x63_32, x63_33, x63_34, x63_35, x63_37, x63_38, x63_39, x63_40, x63_41, x63_42, x63_43, x63_44, x63_45, x63_46, x63_47, x63_48, x63_49, x63_50, x63_51, x63_52, x63_53, x63_54, x63_55, x63_56, x63_57, x63_58, x63_59, x63_60, x63_61, x63_62, x63_63, x63_64, x63_65, x63_66, x63_67, x63_68, x63_69, x63_70, x63_71, x63_72, x63_73, ↓reduceIte, Option.toList, List.nil_append, List.cons_append, nI_add, pk_mul, n_and, n_or, n_xor, nI_leI, nI_ltI, nI_eq, n_z, uI_s, uI_n, bI_n0, bI_n1, bT, bF, if_true, if_false, not_true, not_false_eq_true, pk_div, pk_rem, Nat.reduceEqDiff, Nat.reduceLeDiff, Nat.reduceLT, Nat.reduceAdd, Nat.reduceMul, Nat.reduceSub, Nat.not_lt_zero, Nat.zero_le, reduceCtorEq, ite_self, n_rem, and_self, and_true, true_and, and_false, false_and, lj]) I ⟨fun h hh => by omega, fun _ _ _ => rfl⟩
  exact ⟨I', h1, h2, fun Q => congrFun h3 Q⟩
theorem ms_put {I : Nat → Nat → Int32} {a n p : Nat} (ha : a < 8) (hn : n < 8) (e : ∀ h, h < 8 → I 73 (a * 8 + h) = dvI (bt A 255 a h) n) : ∃ I', (∀ h, h < 8 → I' 73 (a * 8 + h) = dvI (bt A 255 a h) (n + 1)) ∧ (∀ c k, (c ≠ 73 ∨ k < a * 8 ∨ a * 8 + 8 ≤ k) → I' c k = I c k) ∧ ∀ Q, Rn sc d 63 36 [some (.ref 72), some (.int (nI a)), some (.int (nI p)), some (.int (nI (ed A 255 a n))), some (.int (nI n)), some (.int (nI 0))] [] (K0, I, J, R1 T) Q = Rn sc d 63 36 [some (.ref 72), some (.int (nI a)), some (.int (nI p)), some (.int (nI (ed A 255 a n))), some (.int (nI n)), some (.int (nI 8))] [] (K0, I', J, R1 T) Q := by
  have le := ed_lt (A := A) (m := 255) ha (by decide) n
  obtain ⟨I', ⟨h1, h2⟩, h3⟩ := iterE (fun j I' => (∀ h, h < 8 → I' 73 (a * 8 + h) = if h < j then dvI (bt A 255 a h) (n + 1) else dvI (bt A 255 a h) n) ∧ ∀ c k, (c ≠ 73 ∨ k < a * 8 ∨ a * 8 + 8 ≤ k) → I' c k = I c k) (fun j I' => fun Q => Rn sc d 63 36 [some (.ref 72), some (.int (nI a)), some (.int (nI p)), some (.int (nI (ed A 255 a n))), some (.int (nI n)), some (.int (nI j))] [] (K0, I', J, R1 T) Q) 8 (by
    rintro j I1 hj ⟨k1, f1⟩
    have lj : ¬ 8 ≤ j := by omega
    by_cases c : ed A 255 a n / 2 ^ j % 2 = 1
    · refine ⟨uI I1 73 (a * 8 + j) (nI n), ⟨fun h hh => ?_, fun c k hc => (uI_n (by omega)).trans (f1 c k hc)⟩, funext fun Q => ?_⟩
      · by_cases e : h = j
        · rw [e, uI_s, if_pos (by omega), dv_s ha (by decide), if_pos c]
        · rw [uI_n (by omega), k1 h hh]
          by_cases e2 : h < j
          · rw [if_pos e2, if_pos (by omega)]
          · rw [if_neg e2, if_neg (by omega)]
      · show Rn _ _ _ _ _ _ _ _ = Rn _ _ _ _ _ _ _ _
        rw [x63_36]
        simp (disch := first | assumption | omega | decide) only [x63_0, x63_1, x63_3, x63_4, x63_5, x63_6, x63_7, x63_8, x63_9, x63_10, x63_11, x63_12, x63_14, x63_15, x63_16, x63_17, x63_18, x63_19, x63_20, x63_21, x63_22, x63_23, x63_24, x63_25, x63_26, x63_27, x63_28, x63_30, x63_31, x63_32, x63_33, x63_34, x63_35, x63_37, x63_38, x63_39, x63_40, x63_41, x63_42, x63_43, x63_44, x63_45, x63_46, x63_47, x63_48, x63_49, x63_50, x63_51, x63_52, x63_53, x63_54, x63_55, x63_56, x63_57, x63_58, x63_59, x63_60, x63_61, x63_62, x63_63, x63_64, x63_65, x63_66, x63_67, x63_68, x63_69, x63_70, x63_71, x63_72, x63_73, ↓reduceIte, Option.toList, List.nil_append, List.cons_append, nI_add, pk_mul, n_and, n_or, n_xor, nI_leI, nI_ltI, nI_eq, n_z, uI_s, uI_n, bI_n0, bI_n1, bT, bF, if_true, if_false, not_true, not_false_eq_true, pk_div, pk_rem, Nat.reduceEqDiff, Nat.reduceLeDiff, Nat.reduceLT, Nat.reduceAdd, Nat.reduceMul, Nat.reduceSub, Nat.not_lt_zero, Nat.zero_le, reduceCtorEq, ite_self, n_rem, and_self, and_true, true_and, and_false, false_and, lj, n_bit, c]
    · refine ⟨I1, ⟨fun h hh => ?_, f1⟩, funext fun Q => ?_⟩
      · rw [k1 h hh]
        by_cases e : h = j
        · rw [e, if_neg (by omega), if_pos (by omega), dv_s ha (by decide), if_neg c]
        · by_cases e2 : h < j
          · rw [if_pos e2, if_pos (by omega)]
          · rw [if_neg e2, if_neg (by omega)]
      · show Rn _ _ _ _ _ _ _ _ = Rn _ _ _ _ _ _ _ _
        rw [x63_36]
        simp (disch := first | assumption | omega | decide) only [x63_0, x63_1, x63_3, x63_4, x63_5, x63_6, x63_7, x63_8, x63_9, x63_10, x63_11, x63_12, x63_14, x63_15, x63_16, x63_17, x63_18, x63_19, x63_20, x63_21, x63_22, x63_23, x63_24, x63_25, x63_26, x63_27, x63_28, x63_30, x63_31, x63_32, x63_33, x63_34, x63_35, x63_37, x63_38, x63_39, x63_40, x63_41, x63_42, x63_43, x63_44, x63_45, x63_46, x63_47, x63_48, x63_49, x63_50, x63_51, x63_52, x63_53, x63_54, x63_55, x63_56, x63_57, x63_58, x63_59, x63_60, x63_61, x63_62, x63_63, x63_64, x63_65, x63_66, x63_67, x63_68, x63_69, x63_70, x63_71, x63_72, x63_73, ↓reduceIte, Option.toList, List.nil_append, List.cons_append, nI_add, pk_mul, n_and, n_or, n_xor, nI_leI, nI_ltI, nI_eq, n_z, uI_s, uI_n, bI_n0, bI_n1, bT, bF, if_true, if_false, not_true, not_false_eq_true, pk_div, pk_rem, Nat.reduceEqDiff, Nat.reduceLeDiff, Nat.reduceLT, Nat.reduceAdd, Nat.reduceMul, Nat.reduceSub, Nat.not_lt_zero, Nat.zero_le, reduceCtorEq, ite_self, n_rem, and_self, and_true, true_and, and_false, false_and, lj, n_bit, c]) I ⟨fun h hh => by rw [if_neg (by omega)]; exact e h hh, fun _ _ _ => rfl⟩
  exact ⟨I', fun h hh => by rw [h1 h hh, if_pos hh], h2, fun Q => congrFun h3 Q⟩
theorem ms_lay {a : Nat} (ha : a < 8) (w : Wf A) : ∀ (m n : Nat) (I : Nat → Nat → Int32) (u : Option Value), n + m = 8 → BsC I A → (∀ h, h < 8 → I 73 (a * 8 + h) = dvI (bt A 255 a h) n) → ∃ (I' : Nat → Nat → Int32) (p q r : Int32) (u' : Option Value), (∀ h, h < 8 → I' 73 (a * 8 + h) = dvI (bt A 255 a h) 8) ∧ (∀ c k, (c ≠ 73 ∨ k < a * 8 ∨ a * 8 + 8 ≤ k) → I' c k = I c k) ∧ ∀ Q, Rn sc (d + 1) 63 29 [some (.ref 72), some (.int (nI a)), some (.int (nI (sn A a n))), some (.int (nI (ed A 255 a n))), some (.int (nI n)), u] [] (K0, I, J, R1 T) Q = Rn sc (d + 1) 63 71 [some (.ref 72), some (.int (nI a)), some (.int p), some (.int q), some (.int r), u'] [] (K0, I', J, R1 T) Q := by
  intro m
  induction m with
  | zero =>
    intro n I u hn eB e
    obtain rfl : n = 8 := by omega
    refine ⟨I, nI (sn A a 8), nI (ed A 255 a 8), nI 8, u, e, fun _ _ _ => rfl, fun Q => ?_⟩
    rw [x63_29]
    simp (disch := first | assumption | omega | decide) only [x63_30, x63_31, x63_32, x63_33, ↓reduceIte, Option.toList, List.nil_append, List.cons_append, nI_add, pk_mul, n_and, n_or, n_xor, nI_leI, nI_ltI, nI_eq, n_z, uI_s, uI_n, bI_n0, bI_n1, bT, bF, if_true, if_false, not_true, not_false_eq_true, pk_div, pk_rem, Nat.reduceEqDiff, Nat.reduceLeDiff, Nat.reduceLT, Nat.reduceAdd, Nat.reduceMul, Nat.reduceSub, Nat.not_lt_zero, Nat.zero_le, reduceCtorEq, ite_self, n_rem, and_self, and_true, true_and, and_false, false_and]
  | succ m ih =>
    intro n I u hn eB e
    have ln : ¬ 8 ≤ n := by omega
    have le := ed_lt (A := A) (m := 255) ha (by decide) n
    by_cases c : ed A 255 a n = 0
    · refine ⟨I, nI (sn A a n), nI (ed A 255 a n), nI n, u, fun h hh => ?_, fun _ _ _ => rfl, fun Q => ?_⟩
      · rw [e h hh, ← dv_z ha (by decide) c (m + 1), show n + (m + 1) = 8 by omega]
      · rw [x63_29, c]
        simp (disch := first | assumption | omega | decide) only [x63_30, x63_31, x63_32, x63_33, ↓reduceIte, Option.toList, List.nil_append, List.cons_append, nI_add, pk_mul, n_and, n_or, n_xor, nI_leI, nI_ltI, nI_eq, n_z, uI_s, uI_n, bI_n0, bI_n1, bT, bF, if_true, if_false, not_true, not_false_eq_true, pk_div, pk_rem, Nat.reduceEqDiff, Nat.reduceLeDiff, Nat.reduceLT, Nat.reduceAdd, Nat.reduceMul, Nat.reduceSub, Nat.not_lt_zero, Nat.zero_le, reduceCtorEq, ite_self, n_rem, and_self, and_true, true_and, and_false, false_and, ln]
    · obtain ⟨I1, k1, f1, q1⟩ := ms_put (sc := sc) (d := d + 1) (J := J) (T := T) (p := sn A a n) ha (show n < 8 by omega) e
      have eB1 : BsC I1 A := fun h hh => (f1 _ _ (by omega)).trans (eB h hh)
      obtain ⟨I2, p, q, r, u', k2, f2, q2⟩ := ih (n + 1) I1 (some (.int (nI 8))) (by omega) eB1 k1
      refine ⟨I2, p, q, r, u', k2, fun c k hc => (f2 c k hc).trans (f1 c k hc), fun Q => ?_⟩
      rw [x63_29]
      simp (disch := first | assumption | omega | decide) only [x63_30, x63_31, x63_32, x63_33, x63_34, x63_35, ↓reduceIte, Option.toList, List.nil_append, List.cons_append, nI_add, pk_mul, n_and, n_or, n_xor, nI_leI, nI_ltI, nI_eq, n_z, uI_s, uI_n, bI_n0, bI_n1, bT, bF, if_true, if_false, not_true, not_false_eq_true, pk_div, pk_rem, Nat.reduceEqDiff, Nat.reduceLeDiff, Nat.reduceLT, Nat.reduceAdd, Nat.reduceMul, Nat.reduceSub, Nat.not_lt_zero, Nat.zero_le, reduceCtorEq, ite_self, n_rem, and_self, and_true, true_and, and_false, false_and, ln, c, q1]
      rw [x63_36]
      simp (disch := first | assumption | omega | decide) only [x63_37, x63_38, x63_39, x63_40, x63_41, x63_42, x63_43, x63_44, x63_45, x63_46, x63_47, x63_48, x63_49, x63_50, x63_51, x63_52, x63_53, x63_54, x63_55, x63_56, x63_57, x63_58, x63_59, x63_60, x63_61, x63_62, x63_63, x63_64, x63_65, x63_66, x63_67, x63_68, x63_69, x63_70, ↓reduceIte, Option.toList, List.nil_append, List.cons_append, nI_add, pk_mul, n_and, n_or, n_xor, nI_leI, nI_ltI, nI_eq, n_z, uI_s, uI_n, bI_n0, bI_n1, bT, bF, if_true, if_false, not_true, not_false_eq_true, pk_div, pk_rem, Nat.reduceEqDiff, Nat.reduceLeDiff, Nat.reduceLT, Nat.reduceAdd, Nat.reduceMul, Nat.reduceSub, Nat.not_lt_zero, Nat.zero_le, reduceCtorEq, ite_self, n_rem, and_self, and_true, true_and, and_false, false_and, Nat.le_refl, sn_o ha, sp_any le eB1, ng_I, ed_c w]
      exact q2 Q
theorem sp_measure {I : Nat → Nat → Int32} {u1 u2 u3 u4 u5 : Option Value} (w : Wf A) (eB : BsC I A) : ∃ I', (∀ a h, a < 8 → h < 8 → I' 73 (a * 8 + h) = dvD (ds A a h)) ∧ (∀ c k, c ≠ 73 → I' c k = I c k) ∧ ∀ Q, Rn sc (d + 1) 63 0 [some (.ref 72), u1, u2, u3, u4, u5] [] (K0, I, J, R1 T) Q = Q none (K0, I', J, R1 T) := by
  obtain ⟨⟨I', v2, v3, v4, v5⟩, ⟨h1, h2⟩, h3⟩ := iterE (St := (Nat → Nat → Int32) × Option Value × Option Value × Option Value × Option Value) (fun a s => (∀ x h, x < a → h < 8 → s.1 73 (x * 8 + h) = dvD (ds A x h)) ∧ ∀ c k, c ≠ 73 → s.1 c k = I c k) (fun a s => fun Q => Rn sc (d + 1) 63 2 [some (.ref 72), some (.int (nI a)), s.2.1, s.2.2.1, s.2.2.2.1, s.2.2.2.2] [] (K0, s.1, J, R1 T) Q) 8 (by
    rintro a ⟨I1, v2, v3, v4, v5⟩ ha ⟨k1, f1⟩
    have f1 : ∀ c k, c ≠ 73 → I1 c k = I c k := f1
    have k1 : ∀ x h, x < a → h < 8 → I1 73 (x * 8 + h) = dvD (ds A x h) := k1
    have la : ¬ 8 ≤ a := by omega
    obtain ⟨I2, k2, f2, q2⟩ := ms_init (sc := sc) (d := d + 1) (J := J) (T := T) (I := I1) (p := 0) (q := 2 ^ a) (u := v5) ha
    have eB2 : BsC I2 A := fun h hh => (f2 _ _ (by omega)).trans ((f1 _ _ (by omega)).trans (eB h hh))
    obtain ⟨I3, p, q, r, u', k3, f3, q3⟩ := ms_lay (sc := sc) (d := d) (J := J) (T := T) ha w 8 0 I2 v5 (by omega) eB2 k2
    have q3 : ∀ Q, Rn sc (d + 1) 63 29 [some (.ref 72), some (.int (nI a)), some (.int (nI 0)), some (.int (nI (2 ^ a))), some (.int (nI 0)), v5] [] (K0, I2, J, R1 T) Q = _ := q3
    refine ⟨(I3, some (.int p), some (.int q), some (.int r), u'), ⟨fun x h hx hh => ?_, fun c k hc => (f3 c k (Or.inl hc)).trans ((f2 c k (Or.inl hc)).trans (f1 c k hc))⟩, funext fun Q => ?_⟩
    · show I3 73 (x * 8 + h) = _
      by_cases e : x = a
      · subst e
        rw [k3 h hh]
        rfl
      · rw [f3 _ _ (by omega), f2 _ _ (by omega)]
        exact k1 x h (by omega) hh
    · show Rn _ _ _ _ _ _ _ _ = Rn _ _ _ _ _ _ _ _
      rw [x63_2]
      simp (disch := first | assumption | omega | decide) only [x63_3, x63_4, x63_5, x63_6, x63_7, x63_8, x63_9, x63_10, x63_11, x63_12, ↓reduceIte, Option.toList, List.nil_append, List.cons_append, nI_add, pk_mul, n_and, n_or, n_xor, nI_leI, nI_ltI, nI_eq, n_z, uI_s, uI_n, bI_n0, bI_n1, bT, bF, if_true, if_false, not_true, not_false_eq_true, pk_div, pk_rem, Nat.reduceEqDiff, Nat.reduceLeDiff, Nat.reduceLT, Nat.reduceAdd, Nat.reduceMul, Nat.reduceSub, Nat.not_lt_zero, Nat.zero_le, reduceCtorEq, ite_self, n_rem, and_self, and_true, true_and, and_false, false_and, la, n_one, q2]
      rw [x63_13]
      simp (disch := first | assumption | omega | decide) only [x63_14, x63_15, x63_27, x63_28, ↓reduceIte, Option.toList, List.nil_append, List.cons_append, nI_add, pk_mul, n_and, n_or, n_xor, nI_leI, nI_ltI, nI_eq, n_z, uI_s, uI_n, bI_n0, bI_n1, bT, bF, if_true, if_false, not_true, not_false_eq_true, pk_div, pk_rem, Nat.reduceEqDiff, Nat.reduceLeDiff, Nat.reduceLT, Nat.reduceAdd, Nat.reduceMul, Nat.reduceSub, Nat.not_lt_zero, Nat.zero_le, reduceCtorEq, ite_self, n_rem, and_self, and_true, true_and, and_false, false_and, Nat.le_refl, q3]
      simp (disch := first | assumption | omega | decide) only [x63_71, x63_72, ↓reduceIte, Option.toList, List.nil_append, List.cons_append, nI_add, pk_mul, n_and, n_or, n_xor, nI_leI, nI_ltI, nI_eq, n_z, uI_s, uI_n, bI_n0, bI_n1, bT, bF, if_true, if_false, not_true, not_false_eq_true, pk_div, pk_rem, Nat.reduceEqDiff, Nat.reduceLeDiff, Nat.reduceLT, Nat.reduceAdd, Nat.reduceMul, Nat.reduceSub, Nat.not_lt_zero, Nat.zero_le, reduceCtorEq, ite_self, n_rem, and_self, and_true, true_and, and_false, false_and]) (I, u2, u3, u4, u5) ⟨fun x h hx hh => by omega, fun _ _ _ => rfl⟩
  refine ⟨I', h1, h2, fun Q => ?_⟩
  have h3' := congrFun h3 Q
  simp (disch := first | assumption | omega | decide) only [x63_0, x63_1]
  refine Eq.trans h3' ?_
  show Rn _ _ _ _ _ _ _ _ = _
  rw [x63_2]
  simp (disch := first | assumption | omega | decide) only [x63_3, x63_4, x63_73, ↓reduceIte, Option.toList, List.nil_append, List.cons_append, nI_add, pk_mul, n_and, n_or, n_xor, nI_leI, nI_ltI, nI_eq, n_z, uI_s, uI_n, bI_n0, bI_n1, bT, bF, if_true, if_false, not_true, not_false_eq_true, pk_div, pk_rem, Nat.reduceEqDiff, Nat.reduceLeDiff, Nat.reduceLT, Nat.reduceAdd, Nat.reduceMul, Nat.reduceSub, Nat.not_lt_zero, Nat.zero_le, reduceCtorEq, ite_self, n_rem, and_self, and_true, true_and, and_false, false_and, Nat.le_refl]
theorem sp_dist {I : Nat → Nat → Int32} {Q : Option Value → Mm → Prop} {a b : Nat} (ha : a < 8) (hb : b < 8) (e : ∀ a h, a < 8 → h < 8 → I 73 (a * 8 + h) = dvD (ds A a h)) : Rn sc d 64 0 [some (.ref 72), some (.int (nI a)), some (.int (nI b))] [] (K0, I, J, R1 T) Q = Q (some (.int (dvD (ds A a b)))) (K0, I, J, R1 T) := by
  simp (disch := first | assumption | omega | decide) only [x64_0, x64_1, x64_2, x64_3, x64_4, x64_5, x64_6, x64_7, x64_8, ↓reduceIte, Option.toList, List.nil_append, List.cons_append, nI_add, pk_mul, n_and, n_or, n_xor, nI_leI, nI_ltI, nI_eq, n_z, uI_s, uI_n, bI_n0, bI_n1, bT, bF, if_true, if_false, not_true, not_false_eq_true, pk_div, pk_rem, Nat.reduceEqDiff, Nat.reduceLeDiff, Nat.reduceLT, Nat.reduceAdd, Nat.reduceMul, Nat.reduceSub, Nat.not_lt_zero, Nat.zero_le, reduceCtorEq, ite_self, n_rem, and_self, and_true, true_and, and_false, false_and, e a b ha hb]
theorem lf_put {I : Nat → Nat → Int32} {a m n : Nat} (ha : a < 8) (hm : m < 256) (hn : n < 8) (w : Wf A) (mA : AtM I 90 A) (e : ∀ h, h < 8 → I 99 h = dvI (bt A m a h) n) : ∃ I', (∀ h, h < 8 → I' 99 h = dvI (bt A m a h) (n + 1)) ∧ (∀ c k, c ≠ 99 → I' c k = I c k) ∧ ∀ Q, Rn sc (d + 1) 264 26 [some (.ref 89), some (.int (nI a)), some (.int (nI m)), some (.int (nI (bl A m a n))), some (.int (nI (ed A m a n))), some (.int (nI n)), some (.int (nI 0)), some (.int (nI 0))] [] (K0, I, J, R1 T) Q = Rn sc (d + 1) 264 26 [some (.ref 89), some (.int (nI a)), some (.int (nI m)), some (.int (nI (bl A m a n))), some (.int (nI (ed A m a n))), some (.int (nI n)), some (.int (nI (nxt A (ed A m a n)))), some (.int (nI 8))] [] (K0, I', J, R1 T) Q := by
  have le := ed_lt (A := A) ha hm n
  obtain ⟨I', ⟨h1, h2⟩, h3⟩ := iterE (fun j I' => (∀ h, h < 8 → I' 99 h = if h < j then dvI (bt A m a h) (n + 1) else dvI (bt A m a h) n) ∧ ∀ c k, c ≠ 99 → I' c k = I c k) (fun j I' => fun Q => Rn sc (d + 1) 264 26 [some (.ref 89), some (.int (nI a)), some (.int (nI m)), some (.int (nI (bl A m a n))), some (.int (nI (ed A m a n))), some (.int (nI n)), some (.int (nI (nxN A (ed A m a n) j))), some (.int (nI j))] [] (K0, I', J, R1 T) Q) 8 (by
    rintro j I1 hj ⟨k1, f1⟩
    have lj : ¬ 8 ≤ j := by omega
    by_cases c : ed A m a n / 2 ^ j % 2 = 1
    · have m2 : AtM (uI I1 99 j (nI n)) 90 A := AtM_c mA (fun k => (uI_n (by omega)).trans (f1 _ _ (by omega)))
      have b2 := fun Q => sp_besM (Q := Q) (sc := sc) (d := d) (J := J) (T := T) (u2 := none) (u3 := none) hj w m2
      refine ⟨uI I1 99 j (nI n), ⟨fun h hh => ?_, fun c k hc => (uI_n (by omega)).trans (f1 c k hc)⟩, funext fun Q => ?_⟩
      · by_cases e : h = j
        · rw [e, uI_s, if_pos (by omega), dv_s ha hm, if_pos c]
        · rw [uI_n (by omega), k1 h hh]
          by_cases e2 : h < j
          · rw [if_pos e2, if_pos (by omega)]
          · rw [if_neg e2, if_neg (by omega)]
      · show Rn _ _ _ _ _ _ _ _ = Rn _ _ _ _ _ _ _ _
        rw [x264_26, nxN, if_pos c]
        simp (disch := first | assumption | omega | decide) only [x264_0, x264_1, x264_3, x264_4, x264_5, x264_6, x264_7, x264_8, x264_9, x264_10, x264_11, x264_12, x264_13, x264_14, x264_15, x264_16, x264_17, x264_18, x264_19, x264_21, x264_22, x264_23, x264_24, x264_25, x264_27, x264_28, x264_29, x264_30, x264_31, x264_32, x264_33, x264_34, x264_35, x264_36, x264_37, x264_38, x264_39, x264_40, x264_41, x264_42, x264_43, x264_44, x264_45, x264_46, x264_47, x264_48, x264_49, x264_50, x264_51, x264_52, x264_53, x264_54, x264_55, x264_56, x264_57, x264_58, x264_59, x264_60, x264_61, x264_62, ↓reduceIte, Option.toList, List.nil_append, List.cons_append, nI_add, pk_mul, n_and, n_or, n_xor, nI_leI, nI_ltI, nI_eq, n_z, uI_s, uI_n, bI_n0, bI_n1, bT, bF, if_true, if_false, not_true, not_false_eq_true, pk_div, pk_rem, Nat.reduceEqDiff, Nat.reduceLeDiff, Nat.reduceLT, Nat.reduceAdd, Nat.reduceMul, Nat.reduceSub, Nat.not_lt_zero, Nat.zero_le, reduceCtorEq, ite_self, n_rem, and_self, and_true, true_and, and_false, false_and, lj, sp_has, c, b2]
    · refine ⟨I1, ⟨fun h hh => ?_, f1⟩, funext fun Q => ?_⟩
      · rw [k1 h hh]
        by_cases e : h = j
        · rw [e, if_neg (by omega), if_pos (by omega), dv_s ha hm, if_neg c]
        · by_cases e2 : h < j
          · rw [if_pos e2, if_pos (by omega)]
          · rw [if_neg e2, if_neg (by omega)]
      · show Rn _ _ _ _ _ _ _ _ = Rn _ _ _ _ _ _ _ _
        rw [x264_26, nxN, if_neg c, Nat.or_zero]
        simp (disch := first | assumption | omega | decide) only [x264_0, x264_1, x264_3, x264_4, x264_5, x264_6, x264_7, x264_8, x264_9, x264_10, x264_11, x264_12, x264_13, x264_14, x264_15, x264_16, x264_17, x264_18, x264_19, x264_21, x264_22, x264_23, x264_24, x264_25, x264_27, x264_28, x264_29, x264_30, x264_31, x264_32, x264_33, x264_34, x264_35, x264_36, x264_37, x264_38, x264_39, x264_40, x264_41, x264_42, x264_43, x264_44, x264_45, x264_46, x264_47, x264_48, x264_49, x264_50, x264_51, x264_52, x264_53, x264_54, x264_55, x264_56, x264_57, x264_58, x264_59, x264_60, x264_61, x264_62, ↓reduceIte, Option.toList, List.nil_append, List.cons_append, nI_add, pk_mul, n_and, n_or, n_xor, nI_leI, nI_ltI, nI_eq, n_z, uI_s, uI_n, bI_n0, bI_n1, bT, bF, if_true, if_false, not_true, not_false_eq_true, pk_div, pk_rem, Nat.reduceEqDiff, Nat.reduceLeDiff, Nat.reduceLT, Nat.reduceAdd, Nat.reduceMul, Nat.reduceSub, Nat.not_lt_zero, Nat.zero_le, reduceCtorEq, ite_self, n_rem, and_self, and_true, true_and, and_false, false_and, lj, sp_has, c]) I ⟨fun h hh => by rw [if_neg (by omega)]; exact e h hh, fun _ _ _ => rfl⟩
  exact ⟨I', fun h hh => by rw [h1 h hh, if_pos hh], h2, fun Q => congrFun h3 Q⟩
theorem lf_lay {a m : Nat} (ha : a < 8) (hm : m < 256) (w : Wf A) : ∀ (k n : Nat) (I : Nat → Nat → Int32) (u6 u7 : Option Value), n + k = 8 → AtM I 90 A → (∀ h, h < 8 → I 99 h = dvI (bt A m a h) n) → ∃ I', (∀ h, h < 8 → I' 99 h = dvI (bt A m a h) 8) ∧ (∀ c k, c ≠ 99 → I' c k = I c k) ∧ ∀ Q, Rn sc (d + 1) 264 20 [some (.ref 89), some (.int (nI a)), some (.int (nI m)), some (.int (nI (bl A m a n))), some (.int (nI (ed A m a n))), some (.int (nI n)), u6, u7] [] (K0, I, J, R1 T) Q = Q (some (.int (nI (bl A m a 7)))) (K0, I', J, R1 T) := by
  intro k
  induction k with
  | zero =>
    intro n I u6 u7 hn mA e
    obtain rfl : n = 8 := by omega
    refine ⟨I, e, fun _ _ _ => rfl, fun Q => ?_⟩
    rw [x264_20, ed_8 ha hm, bl_7 ha hm 1]
    simp (disch := first | assumption | omega | decide) only [x264_21, x264_61, x264_62, ↓reduceIte, Option.toList, List.nil_append, List.cons_append, nI_add, pk_mul, n_and, n_or, n_xor, nI_leI, nI_ltI, nI_eq, n_z, uI_s, uI_n, bI_n0, bI_n1, bT, bF, if_true, if_false, not_true, not_false_eq_true, pk_div, pk_rem, Nat.reduceEqDiff, Nat.reduceLeDiff, Nat.reduceLT, Nat.reduceAdd, Nat.reduceMul, Nat.reduceSub, Nat.not_lt_zero, Nat.zero_le, reduceCtorEq, ite_self, n_rem, and_self, and_true, true_and, and_false, false_and]
  | succ k ih =>
    intro n I u6 u7 hn mA e
    have le := ed_lt (A := A) ha hm n
    by_cases c : ed A m a n = 0
    · refine ⟨I, fun h hh => ?_, fun _ _ _ => rfl, fun Q => ?_⟩
      · rw [e h hh, ← dv_z ha hm c (k + 1), show n + (k + 1) = 8 by omega]
      · rw [x264_20, c, bl_z7 ha hm (by omega) c]
        simp (disch := first | assumption | omega | decide) only [x264_21, x264_61, x264_62, ↓reduceIte, Option.toList, List.nil_append, List.cons_append, nI_add, pk_mul, n_and, n_or, n_xor, nI_leI, nI_ltI, nI_eq, n_z, uI_s, uI_n, bI_n0, bI_n1, bT, bF, if_true, if_false, not_true, not_false_eq_true, pk_div, pk_rem, Nat.reduceEqDiff, Nat.reduceLeDiff, Nat.reduceLT, Nat.reduceAdd, Nat.reduceMul, Nat.reduceSub, Nat.not_lt_zero, Nat.zero_le, reduceCtorEq, ite_self, n_rem, and_self, and_true, true_and, and_false, false_and]
    · obtain ⟨I1, k1, f1, q1⟩ := lf_put (sc := sc) (d := d) (J := J) (T := T) ha hm (show n < 8 by omega) w mA e
      obtain ⟨I2, k2, f2, q2⟩ := ih (n + 1) I1 (some (.int (nI (nxt A (ed A m a n))))) (some (.int (nI 8))) (by omega) (AtM_c mA (fun k => f1 _ _ (by omega))) k1
      refine ⟨I2, k2, fun c k hc => (f2 c k hc).trans (f1 c k hc), fun Q => ?_⟩
      have ee : nxt A (ed A m a n) &&& m &&& (bl A m a n ^^^ 4294967295) = ed A m a (n + 1) := rfl
      rw [x264_20]
      simp (disch := first | assumption | omega | decide) only [x264_21, x264_22, x264_23, x264_24, x264_25, ↓reduceIte, Option.toList, List.nil_append, List.cons_append, nI_add, pk_mul, n_and, n_or, n_xor, nI_leI, nI_ltI, nI_eq, n_z, uI_s, uI_n, bI_n0, bI_n1, bT, bF, if_true, if_false, not_true, not_false_eq_true, pk_div, pk_rem, Nat.reduceEqDiff, Nat.reduceLeDiff, Nat.reduceLT, Nat.reduceAdd, Nat.reduceMul, Nat.reduceSub, Nat.not_lt_zero, Nat.zero_le, reduceCtorEq, ite_self, n_rem, and_self, and_true, true_and, and_false, false_and, c, q1]
      rw [x264_26]
      simp (disch := first | assumption | omega | decide) only [x264_27, x264_28, x264_47, x264_48, x264_49, x264_50, x264_51, x264_52, x264_53, x264_54, x264_55, x264_56, x264_57, x264_58, x264_59, x264_60, ↓reduceIte, Option.toList, List.nil_append, List.cons_append, nI_add, pk_mul, n_and, n_or, n_xor, nI_leI, nI_ltI, nI_eq, n_z, uI_s, uI_n, bI_n0, bI_n1, bT, bF, if_true, if_false, not_true, not_false_eq_true, pk_div, pk_rem, Nat.reduceEqDiff, Nat.reduceLeDiff, Nat.reduceLT, Nat.reduceAdd, Nat.reduceMul, Nat.reduceSub, Nat.not_lt_zero, Nat.zero_le, reduceCtorEq, ite_self, n_rem, and_self, and_true, true_and, and_false, false_and, Nat.le_refl, ng_I, ee, ← bl_d ha hm]
      exact q2 Q
theorem sp_lay {I : Nat → Nat → Int32} {a m : Nat} (ha : a < 8) (hm : m < 256) (w : Wf A) (mA : AtM I 90 A) : ∃ I', (∀ h, h < 8 → I' 99 h = dvI (bt A m a h) 8) ∧ (∀ c k, c ≠ 99 → I' c k = I c k) ∧ ∀ Q, Rn sc (d + 1) 264 0 [some (.ref 89), some (.int (nI a)), some (.int (nI m)), none, none, none, none, none] [] (K0, I, J, R1 T) Q = Q (some (.int (nI (bl A m a 7)))) (K0, I', J, R1 T) := by
  obtain ⟨I1, ⟨h1, h2⟩, h3⟩ := iterE (fun j I' => (∀ h, h < j → I' 99 h = -1) ∧ ∀ c k, c ≠ 99 → I' c k = I c k) (fun j I' => fun Q => Rn sc (d + 1) 264 2 [some (.ref 89), some (.int (nI a)), some (.int (nI m)), some (.int (nI j)), none, none, none, none] [] (K0, I', J, R1 T) Q) 8 (by
    rintro j I1 hj ⟨k1, f1⟩
    have lj : ¬ 8 ≤ j := by omega
    refine ⟨uI I1 99 j (-1), ⟨fun h hh => ?_, fun c k hc => (uI_n (by omega)).trans (f1 c k hc)⟩, funext fun Q => ?_⟩
    · by_cases e : h = j
      · rw [e, uI_s]
      · rw [uI_n (by omega)]
        exact k1 h (by omega)
    · show Rn _ _ _ _ _ _ _ _ = Rn _ _ _ _ _ _ _ _
      rw [x264_2]
      simp (disch := first | assumption | omega | decide) only [x264_3, x264_4, x264_5, x264_6, x264_7, x264_8, x264_9, x264_10, x264_11, ↓reduceIte, Option.toList, List.nil_append, List.cons_append, nI_add, pk_mul, n_and, n_or, n_xor, nI_leI, nI_ltI, nI_eq, n_z, uI_s, uI_n, bI_n0, bI_n1, bT, bF, if_true, if_false, not_true, not_false_eq_true, pk_div, pk_rem, Nat.reduceEqDiff, Nat.reduceLeDiff, Nat.reduceLT, Nat.reduceAdd, Nat.reduceMul, Nat.reduceSub, Nat.not_lt_zero, Nat.zero_le, reduceCtorEq, ite_self, n_rem, and_self, and_true, true_and, and_false, false_and, lj]) I ⟨fun h hh => by omega, fun _ _ _ => rfl⟩
  obtain ⟨I2, k2, f2, q2⟩ := lf_lay (sc := sc) (d := d) (J := J) (T := T) ha hm w 8 0 I1 none none (by omega) (AtM_c mA (fun k => h2 _ _ (by omega))) h1
  refine ⟨I2, k2, fun c k hc => (f2 c k hc).trans (h2 c k hc), fun Q => ?_⟩
  have q2 : Rn sc (d + 1) 264 20 [some (.ref 89), some (.int (nI a)), some (.int (nI m)), some (.int (nI (2 ^ a))), some (.int (nI (2 ^ a))), some (.int (nI 0)), none, none] [] (K0, I1, J, R1 T) Q = _ := q2 Q
  have h3' := congrFun h3 Q
  simp (disch := first | assumption | omega | decide) only [x264_0, x264_1]
  refine Eq.trans h3' ?_
  show Rn _ _ _ _ _ _ _ _ = _
  rw [x264_2]
  simp (disch := first | assumption | omega | decide) only [x264_3, x264_4, x264_12, x264_13, x264_14, x264_15, x264_16, x264_17, x264_18, x264_19, ↓reduceIte, Option.toList, List.nil_append, List.cons_append, nI_add, pk_mul, n_and, n_or, n_xor, nI_leI, nI_ltI, nI_eq, n_z, uI_s, uI_n, bI_n0, bI_n1, bT, bF, if_true, if_false, not_true, not_false_eq_true, pk_div, pk_rem, Nat.reduceEqDiff, Nat.reduceLeDiff, Nat.reduceLT, Nat.reduceAdd, Nat.reduceMul, Nat.reduceSub, Nat.not_lt_zero, Nat.zero_le, reduceCtorEq, ite_self, n_rem, and_self, and_true, true_and, and_false, false_and, Nat.le_refl, n_one, q2]
end Flood
