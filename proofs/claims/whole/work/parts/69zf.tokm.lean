/-! the reference's next token -/
theorem l_tn {x : Nat} (h : x < 2 ^ 64) : (lN x).toBitVec.toNat = x := by
  show (BitVec.ofNat 64 x).toNat = x
  rw [BitVec.toNat_ofNat, Nat.mod_eq_of_lt h]
theorem l_s8 : (((nI 8).toInt64 &&& 63).toBitVec.smod 64).toNat = 8 := by decide
theorem l_s48 : (((nI 48).toInt64 &&& 63).toBitVec.smod 64).toNat = 48 := by decide
theorem l_shl {a : Nat} (h : a < 2 ^ 48) : lN a <<< ((nI 8).toInt64 &&& 63) = lN (a * 256) := by
  apply Int64.toBitVec_inj.mp
  apply BitVec.eq_of_toNat_eq
  show ((lN a).toBitVec <<< (((nI 8).toInt64 &&& 63).toBitVec.smod 64).toNat).toNat = _
  rw [l_s8, BitVec.toNat_shiftLeft, l_tn (by omega), l_tn (by omega), Nat.shiftLeft_eq, Nat.mod_eq_of_lt (by omega)]
theorem l_or {a y : Nat} (h : a < 2 ^ 48) (hy : y < 256) : lN (a * 256) ||| lN y = lN (a * 256 + y) := by
  apply Int64.toBitVec_inj.mp
  apply BitVec.eq_of_toNat_eq
  show ((lN (a * 256)).toBitVec ||| (lN y).toBitVec).toNat = _
  rw [BitVec.toNat_or, l_tn (by omega), l_tn (by omega), l_tn (by omega)]
  have := Nat.shiftLeft_add_eq_or_of_lt (b := y) (i := 8) (show y < 2 ^ 8 by omega) a
  rw [Nat.shiftLeft_eq] at this
  exact this.symm
theorem l_shr {a : Nat} (h : a < 2 ^ 61) : lN a >>> ((nI 48).toInt64 &&& 63) = lN (a / 2 ^ 48) := by
  apply Int64.toInt_inj.mp
  show ((lN a).toBitVec.sshiftRight (((nI 48).toInt64 &&& 63).toBitVec.smod 64).toNat).toInt = _
  have h2 : a / 2 ^ 48 ≤ a := Nat.div_le_self _ _
  rw [l_s48, BitVec.toInt_sshiftRight, pk_lT (by omega)]
  show (lN a).toInt >>> 48 = _
  rw [pk_lT (by omega), Int.shiftRight_eq_div_pow]
  rfl
theorem l_48 {v : Nat} (h : v < 2 ^ 61) : (lg_cmp (lN v >>> ((nI 48).toInt64 &&& 63)) 0 = nI 0) = (v < 2 ^ 48) := by
  have e : (lg_cmp (lN v >>> ((nI 48).toInt64 &&& 63)) 0 = nI 0) = (lN v >>> ((nI 48).toInt64 &&& 63) = 0) := j_eq _ _
  rw [e, l_shr h]
  apply propext
  have h2 : v / 2 ^ 48 ≤ v := Nat.div_le_self _ _
  have e2 := pk_lEQ (a := v / 2 ^ 48) (b := 0) (by omega) (by omega)
  constructor
  · intro h3
    have := e2.mp h3
    omega
  · intro h3
    exact e2.mpr (by omega)
def wdF (b : Nat → Nat) (q : Nat) : Nat → Nat
  | 0 => 0
  | m + 1 => if 2 ^ 48 ≤ wdF b q m then 2 ^ 60 else wdF b q m * 256 + b (q + m)
def rnF (b : Nat → Nat) (q : Nat) : Nat → Nat
  | 0 => 0
  | m + 1 => if 99999 < rnF b q m then rnF b q m else 10 * rnF b q m + b (q + m) - 48
def sgB (c : Nat) : Bool := decide (c = 35 ∨ c = 40 ∨ c = 41 ∨ c = 42 ∨ c = 43 ∨ c = 45 ∨ c = 47 ∨ c = 58 ∨ c = 59 ∨ c = 60 ∨ c = 61 ∨ c = 62)
def le2 (b : Nat → Nat) (n q : Nat) : Bool := decide ((b q = 60 ∨ b q = 62) ∧ q + 1 < n ∧ b (q + 1) = 61)
def tkq (b : Nat → Nat) (n q : Nat) : Nat := if n ≤ q then 0 else if isD (b q) = true then 1 else if isL (b q) = true then 2 else if le2 b n q = true then (if b q = 60 then 4 else 5) else if sgB (b q) = true then b q else 3
def tT (b : Nat → Nat) (n p : Nat) : Nat := tkq b n (tS b n p)
def tW (b : Nat → Nat) (n p : Nat) : Nat := wdF b (tS b n p) (wlN isL b n (tS b n p) - tS b n p)
def TpM (I : Nat → Nat → Int32) (b : Nat → Nat) (n : Nat) : Prop := n ≤ 300 ∧ I 89 4 = nI n ∧ ∀ k, k < n → I 93 k = nI (b k) ∧ b k < 256
def TkM (I : Nat → Nat → Int32) (J : Nat → Nat → Int64) (b : Nat → Nat) (n p : Nat) : Prop := I 89 7 = nI (tX b n p) ∧ I 89 8 = nI (tS b n p) ∧ I 89 9 = nI (tT b n p) ∧ (tT b n p = 1 → ∃ x, x < 2 ^ 20 ∧ I 89 10 = nI x ∧ (if 10000 < x then 10000 else x) = tV b n p) ∧ (tT b n p = 2 → J 89 11 = lN (tW b n p))
def FrK (I I' : Nat → Nat → Int32) : Prop := ∀ c k, c ≠ 89 ∨ k < 7 ∨ 10 < k → I' c k = I c k
theorem FrK_r {I : Nat → Nat → Int32} : FrK I I := fun _ _ _ => rfl
theorem FrK_t {I I' I'' : Nat → Nat → Int32} (h : FrK I I') (h' : FrK I' I'') : FrK I I'' := fun c k hc => (h' c k hc).trans (h c k hc)
theorem FrK_u {I : Nat → Nat → Int32} {k : Nat} {v : Int32} (hk : 7 ≤ k ∧ k ≤ 10) : FrK I (uI I 89 k v) := fun c j hc => uI_n (by omega)
theorem TpM_c {I I' : Nat → Nat → Int32} {b : Nat → Nat} {n : Nat} (h : TpM I b n) (f : FrK I I') : TpM I' b n := ⟨h.1, (f _ _ (by omega)).trans h.2.1, fun k hk => ⟨(f _ _ (by omega)).trans (h.2.2 k hk).1, (h.2.2 k hk).2⟩⟩
theorem wd_lt {b : Nat → Nat} {q : Nat} : ∀ m, (∀ i, i < m → b (q + i) < 256) → wdF b q m < 2 ^ 61
  | 0, _ => by
    rw [wdF]
    decide
  | m + 1, h => by
    have h1 := h m (by omega)
    rw [wdF]
    split <;> omega
theorem rn_lt {b : Nat → Nat} {q : Nat} : ∀ m, (∀ i, i < m → b (q + i) ≤ 57) → rnF b q m < 2 ^ 20
  | 0, _ => by
    rw [rnF]
    decide
  | m + 1, h => by
    have h1 := h m (by omega)
    have ih := rn_lt (b := b) (q := q) m (fun i hi => h i (by omega))
    rw [rnF]
    split <;> omega
theorem rn_nv {b : Nat → Nat} {q : Nat} : ∀ m, (∀ i, i < m → 48 ≤ b (q + i)) → (if 10000 < rnF b q m then 10000 else rnF b q m) = nvF b q m
  | 0, _ => by
    rw [rnF, nvF]
    decide
  | m + 1, h => by
    have h1 := h m (by omega)
    have ih := rn_nv (b := b) (q := q) m (fun i hi => h i (by omega))
    rw [rnF, nvF, ← ih]
    repeat' split
    all_goals omega
section TokM
variable {sc : Sc} {d : Nat} {T : Option Nat} {b : Nat → Nat} {n : Nat}
theorem sp_byteY {I : Nat → Nat → Int32} {J : Nat → Nat → Int64} {Q : Option Value → Mm → Prop} {k : Nat} (t : TpM I b n) (hk : k < n) : Rn sc d 183 0 [some (.ref 89), some (.int (nI k))] [] (K0, I, J, R1 T) Q = Q (some (.int (nI (b k)))) (K0, I, J, R1 T) := by
  have n3 := t.1
  have e1 := t.2.1
  obtain ⟨e2, b2⟩ := t.2.2 k hk
  have lk : ¬ n ≤ k := by omega
  simp (disch := first | assumption | omega | decide) only [x183_0, x183_1, x183_2, x183_3, x183_4, x183_5, x183_6, x183_7, x183_8, x183_9, x183_10, ↓reduceIte, Option.toList, List.nil_append, List.cons_append, nI_add, pk_mul, n_and, n_or, n_xor, nI_leI, nI_ltI, nI_eq, n_z, uI_s, uI_n, bI_n0, bI_n1, bT, bF, if_true, if_false, not_true, not_false_eq_true, pk_div, pk_rem, Nat.reduceEqDiff, Nat.reduceLeDiff, Nat.reduceLT, Nat.reduceAdd, Nat.reduceMul, Nat.reduceSub, Nat.not_lt_zero, Nat.zero_le, reduceCtorEq, ite_self, n_rem, and_self, and_true, true_and, and_false, false_and, e1, lk, e2]
theorem sp_byteN {I : Nat → Nat → Int32} {J : Nat → Nat → Int64} {Q : Option Value → Mm → Prop} {k : Nat} (t : TpM I b n) (hk : n ≤ k) (k3 : k < 2 ^ 20) : Rn sc d 183 0 [some (.ref 89), some (.int (nI k))] [] (K0, I, J, R1 T) Q = Q (some (.int (-1))) (K0, I, J, R1 T) := by
  have n3 := t.1
  have e1 := t.2.1
  simp (disch := first | assumption | omega | decide) only [x183_0, x183_1, x183_2, x183_3, x183_4, x183_5, x183_6, x183_7, x183_8, x183_9, x183_10, ↓reduceIte, Option.toList, List.nil_append, List.cons_append, nI_add, pk_mul, n_and, n_or, n_xor, nI_leI, nI_ltI, nI_eq, n_z, uI_s, uI_n, bI_n0, bI_n1, bT, bF, if_true, if_false, not_true, not_false_eq_true, pk_div, pk_rem, Nat.reduceEqDiff, Nat.reduceLeDiff, Nat.reduceLT, Nat.reduceAdd, Nat.reduceMul, Nat.reduceSub, Nat.not_lt_zero, Nat.zero_le, reduceCtorEq, ite_self, n_rem, and_self, and_true, true_and, and_false, false_and, e1, hk]
theorem sp_isLB {I : Nat → Nat → Int32} {J : Nat → Nat → Int64} {Q : Option Value → Mm → Prop} {c : Nat} (hc : c < 256) : Rn sc d 184 0 [some (.int (nI c))] [] (K0, I, J, R1 T) Q = Q (some (.int (bI (isL c = true)))) (K0, I, J, R1 T) := by
  by_cases c1 : c < 97 <;> by_cases c2 : c ≤ 122 <;> by_cases c3 : c < 65 <;> by_cases c4 : 90 < c <;>
  first
    | (exfalso; omega)
    | (have e : isL c = true := decide_eq_true (by omega)
       rw [bI_t e]
       simp (disch := first | assumption | omega | decide) only [x184_0, x184_1, x184_2, x184_3, x184_4, x184_5, x184_6, x184_7, x184_8, x184_9, x184_10, x184_11, x184_12, x184_13, x184_14, x184_15, ↓reduceIte, Option.toList, List.nil_append, List.cons_append, nI_add, pk_mul, n_and, n_or, n_xor, nI_leI, nI_ltI, nI_eq, n_z, uI_s, uI_n, bI_n0, bI_n1, bT, bF, if_true, if_false, not_true, not_false_eq_true, pk_div, pk_rem, Nat.reduceEqDiff, Nat.reduceLeDiff, Nat.reduceLT, Nat.reduceAdd, Nat.reduceMul, Nat.reduceSub, Nat.not_lt_zero, Nat.zero_le, reduceCtorEq, ite_self, n_rem, and_self, and_true, true_and, and_false, false_and, c1, c2, c3, c4])
    | (have e : ¬ isL c = true := fun h => absurd (of_decide_eq_true h) (by omega)
       rw [bI_f e]
       simp (disch := first | assumption | omega | decide) only [x184_0, x184_1, x184_2, x184_3, x184_4, x184_5, x184_6, x184_7, x184_8, x184_9, x184_10, x184_11, x184_12, x184_13, x184_14, x184_15, ↓reduceIte, Option.toList, List.nil_append, List.cons_append, nI_add, pk_mul, n_and, n_or, n_xor, nI_leI, nI_ltI, nI_eq, n_z, uI_s, uI_n, bI_n0, bI_n1, bT, bF, if_true, if_false, not_true, not_false_eq_true, pk_div, pk_rem, Nat.reduceEqDiff, Nat.reduceLeDiff, Nat.reduceLT, Nat.reduceAdd, Nat.reduceMul, Nat.reduceSub, Nat.not_lt_zero, Nat.zero_le, reduceCtorEq, ite_self, n_rem, and_self, and_true, true_and, and_false, false_and, c1, c2, c3, c4])
theorem sp_isLBm {I : Nat → Nat → Int32} {J : Nat → Nat → Int64} {Q : Option Value → Mm → Prop} : Rn sc d 184 0 [some (.int (-1))] [] (K0, I, J, R1 T) Q = Q (some (.int (nI 0))) (K0, I, J, R1 T) := by
  simp (disch := first | assumption | omega | decide) only [x184_0, x184_1, x184_2, x184_3, x184_4, x184_5, x184_6, x184_7, x184_8, x184_9, x184_10, x184_11, x184_12, x184_13, x184_14, x184_15, ↓reduceIte, Option.toList, List.nil_append, List.cons_append, nI_add, pk_mul, n_and, n_or, n_xor, nI_leI, nI_ltI, nI_eq, n_z, uI_s, uI_n, bI_n0, bI_n1, bT, bF, if_true, if_false, not_true, not_false_eq_true, pk_div, pk_rem, Nat.reduceEqDiff, Nat.reduceLeDiff, Nat.reduceLT, Nat.reduceAdd, Nat.reduceMul, Nat.reduceSub, Nat.not_lt_zero, Nat.zero_le, reduceCtorEq, ite_self, n_rem, and_self, and_true, true_and, and_false, false_and, show ((-1 : Int32) < nI 97) = True from eq_true (by decide), show ((-1 : Int32) < nI 65) = True from eq_true (by decide)]
theorem sp_isFig {I : Nat → Nat → Int32} {J : Nat → Nat → Int64} {Q : Option Value → Mm → Prop} {c : Nat} (hc : c < 256) : Rn sc d 185 0 [some (.int (nI c))] [] (K0, I, J, R1 T) Q = Q (some (.int (bI (isD c = true)))) (K0, I, J, R1 T) := by
  by_cases c1 : c < 48 <;> by_cases c2 : 57 < c <;>
  first
    | (exfalso; omega)
    | (have e : isD c = true := decide_eq_true (by omega)
       rw [bI_t e]
       simp (disch := first | assumption | omega | decide) only [x185_0, x185_1, x185_2, x185_3, x185_4, x185_5, x185_6, x185_7, x185_8, x185_9, ↓reduceIte, Option.toList, List.nil_append, List.cons_append, nI_add, pk_mul, n_and, n_or, n_xor, nI_leI, nI_ltI, nI_eq, n_z, uI_s, uI_n, bI_n0, bI_n1, bT, bF, if_true, if_false, not_true, not_false_eq_true, pk_div, pk_rem, Nat.reduceEqDiff, Nat.reduceLeDiff, Nat.reduceLT, Nat.reduceAdd, Nat.reduceMul, Nat.reduceSub, Nat.not_lt_zero, Nat.zero_le, reduceCtorEq, ite_self, n_rem, and_self, and_true, true_and, and_false, false_and, c1, c2])
    | (have e : ¬ isD c = true := fun h => absurd (of_decide_eq_true h) (by omega)
       rw [bI_f e]
       simp (disch := first | assumption | omega | decide) only [x185_0, x185_1, x185_2, x185_3, x185_4, x185_5, x185_6, x185_7, x185_8, x185_9, ↓reduceIte, Option.toList, List.nil_append, List.cons_append, nI_add, pk_mul, n_and, n_or, n_xor, nI_leI, nI_ltI, nI_eq, n_z, uI_s, uI_n, bI_n0, bI_n1, bT, bF, if_true, if_false, not_true, not_false_eq_true, pk_div, pk_rem, Nat.reduceEqDiff, Nat.reduceLeDiff, Nat.reduceLT, Nat.reduceAdd, Nat.reduceMul, Nat.reduceSub, Nat.not_lt_zero, Nat.zero_le, reduceCtorEq, ite_self, n_rem, and_self, and_true, true_and, and_false, false_and, c1, c2])
theorem sp_isFigm {I : Nat → Nat → Int32} {J : Nat → Nat → Int64} {Q : Option Value → Mm → Prop} : Rn sc d 185 0 [some (.int (-1))] [] (K0, I, J, R1 T) Q = Q (some (.int (nI 0))) (K0, I, J, R1 T) := by
  simp (disch := first | assumption | omega | decide) only [x185_0, x185_1, x185_2, x185_3, x185_4, x185_5, x185_6, x185_7, x185_8, x185_9, ↓reduceIte, Option.toList, List.nil_append, List.cons_append, nI_add, pk_mul, n_and, n_or, n_xor, nI_leI, nI_ltI, nI_eq, n_z, uI_s, uI_n, bI_n0, bI_n1, bT, bF, if_true, if_false, not_true, not_false_eq_true, pk_div, pk_rem, Nat.reduceEqDiff, Nat.reduceLeDiff, Nat.reduceLT, Nat.reduceAdd, Nat.reduceMul, Nat.reduceSub, Nat.not_lt_zero, Nat.zero_le, reduceCtorEq, ite_self, n_rem, and_self, and_true, true_and, and_false, false_and, show ((-1 : Int32) < nI 48) = True from eq_true (by decide)]
theorem sp_isSg {I : Nat → Nat → Int32} {J : Nat → Nat → Int64} {Q : Option Value → Mm → Prop} {c : Nat} (hc : c < 256) : Rn sc d 186 0 [some (.int (nI c))] [] (K0, I, J, R1 T) Q = Q (some (.int (bI (sgB c = true)))) (K0, I, J, R1 T) := by
  by_cases c1 : c < 35 ∨ 62 < c
  · have e : ¬ sgB c = true := fun h => absurd (of_decide_eq_true h) (by omega)
    have hx : (nI c).toInt < 35 ∨ 62 < (nI c).toInt := by
      rw [nI_toInt (by omega)]
      omega
    rw [bI_f e]
    simp (disch := first | assumption | omega | decide) only [x186_0, x186_1_d, x186_4, x186_5, ↓reduceIte, Option.toList, List.nil_append, List.cons_append, nI_add, pk_mul, n_and, n_or, n_xor, nI_leI, nI_ltI, nI_eq, n_z, uI_s, uI_n, bI_n0, bI_n1, bT, bF, if_true, if_false, not_true, not_false_eq_true, pk_div, pk_rem, Nat.reduceEqDiff, Nat.reduceLeDiff, Nat.reduceLT, Nat.reduceAdd, Nat.reduceMul, Nat.reduceSub, Nat.not_lt_zero, Nat.zero_le, reduceCtorEq, ite_self, n_rem, and_self, and_true, true_and, and_false, false_and]
  · have hs : ∃ k, k < 28 ∧ c = 35 + k := ⟨c - 35, by omega, by omega⟩
    obtain ⟨k, hk, rfl⟩ := hs
    have : k = 0 ∨ k = 1 ∨ k = 2 ∨ k = 3 ∨ k = 4 ∨ k = 5 ∨ k = 6 ∨ k = 7 ∨ k = 8 ∨ k = 9 ∨ k = 10 ∨ k = 11 ∨ k = 12 ∨ k = 13 ∨ k = 14 ∨ k = 15 ∨ k = 16 ∨ k = 17 ∨ k = 18 ∨ k = 19 ∨ k = 20 ∨ k = 21 ∨ k = 22 ∨ k = 23 ∨ k = 24 ∨ k = 25 ∨ k = 26 ∨ k = 27 := by omega
    rcases this with rfl | rfl | rfl | rfl | rfl | rfl | rfl | rfl | rfl | rfl | rfl | rfl | rfl | rfl | rfl | rfl | rfl | rfl | rfl | rfl | rfl | rfl | rfl | rfl | rfl | rfl | rfl | rfl <;>
    first
      | (rw [bI_t (show sgB _ = true by decide)]
         simp (disch := first | assumption | omega | decide) only [x186_0, x186_1_35, x186_1_36, x186_1_37, x186_1_38, x186_1_39, x186_1_40, x186_1_41, x186_1_42, x186_1_43, x186_1_44, x186_1_45, x186_1_46, x186_1_47, x186_1_48, x186_1_49, x186_1_50, x186_1_51, x186_1_52, x186_1_53, x186_1_54, x186_1_55, x186_1_56, x186_1_57, x186_1_58, x186_1_59, x186_1_60, x186_1_61, x186_1_62, x186_1_d, x186_2, x186_3, x186_4, x186_5, ↓reduceIte, Option.toList, List.nil_append, List.cons_append, nI_add, pk_mul, n_and, n_or, n_xor, nI_leI, nI_ltI, nI_eq, n_z, uI_s, uI_n, bI_n0, bI_n1, bT, bF, if_true, if_false, not_true, not_false_eq_true, pk_div, pk_rem, Nat.reduceEqDiff, Nat.reduceLeDiff, Nat.reduceLT, Nat.reduceAdd, Nat.reduceMul, Nat.reduceSub, Nat.not_lt_zero, Nat.zero_le, reduceCtorEq, ite_self, n_rem, and_self, and_true, true_and, and_false, false_and])
      | (rw [bI_f (show ¬ sgB _ = true by decide)]
         simp (disch := first | assumption | omega | decide) only [x186_0, x186_1_35, x186_1_36, x186_1_37, x186_1_38, x186_1_39, x186_1_40, x186_1_41, x186_1_42, x186_1_43, x186_1_44, x186_1_45, x186_1_46, x186_1_47, x186_1_48, x186_1_49, x186_1_50, x186_1_51, x186_1_52, x186_1_53, x186_1_54, x186_1_55, x186_1_56, x186_1_57, x186_1_58, x186_1_59, x186_1_60, x186_1_61, x186_1_62, x186_1_d, x186_2, x186_3, x186_4, x186_5, ↓reduceIte, Option.toList, List.nil_append, List.cons_append, nI_add, pk_mul, n_and, n_or, n_xor, nI_leI, nI_ltI, nI_eq, n_z, uI_s, uI_n, bI_n0, bI_n1, bT, bF, if_true, if_false, not_true, not_false_eq_true, pk_div, pk_rem, Nat.reduceEqDiff, Nat.reduceLeDiff, Nat.reduceLT, Nat.reduceAdd, Nat.reduceMul, Nat.reduceSub, Nat.not_lt_zero, Nat.zero_le, reduceCtorEq, ite_self, n_rem, and_self, and_true, true_and, and_false, false_and])
theorem lpm_blank {J : Nat → Nat → Int64} : ∀ (m p : Nat), n - p = m → p ≤ n → ∀ I : Nat → Nat → Int32, TpM I b n → I 89 7 = nI p → ∃ I', FrK I I' ∧ I' 89 7 = nI (wlN isB b n p) ∧ ∀ Q, Rn sc (d + 1) 187 0 [some (.ref 89), none] [] (K0, I, J, R1 T) Q = Rn sc (d + 1) 187 19 [some (.ref 89), none] [] (K0, I', J, R1 T) Q := by
  intro m
  induction m with
  | zero =>
    intro p hm hp I t h4
    have n3 := t.1
    have by' := fun Q => sp_byteN (sc := sc) (d := d) (T := T) (J := J) (Q := Q) t (show n ≤ p by omega) (by omega)
    refine ⟨I, FrK_r, by rw [wl_n (by omega)]; exact h4, fun Q => ?_⟩
    rw [x187_0]
    simp (disch := first | assumption | omega | decide) only [x187_1, x187_2, x187_3, x187_4, x187_5, x187_6, x187_7, x187_8, x187_9, x187_10, x187_11, ↓reduceIte, Option.toList, List.nil_append, List.cons_append, nI_add, pk_mul, n_and, n_or, n_xor, nI_leI, nI_ltI, nI_eq, n_z, uI_s, uI_n, bI_n0, bI_n1, bT, bF, if_true, if_false, not_true, not_false_eq_true, pk_div, pk_rem, Nat.reduceEqDiff, Nat.reduceLeDiff, Nat.reduceLT, Nat.reduceAdd, Nat.reduceMul, Nat.reduceSub, Nat.not_lt_zero, Nat.zero_le, reduceCtorEq, ite_self, n_rem, and_self, and_true, true_and, and_false, false_and, h4, by', n_m1e']
  | succ m ih =>
    intro p hm hp I t h4
    have n3 := t.1
    have b2 := (t.2.2 p (by omega)).2
    have by' := fun Q => sp_byteY (sc := sc) (d := d) (T := T) (J := J) (Q := Q) t (show p < n by omega)
    by_cases c : isB (b p) = true
    · obtain ⟨I1, f1, k1, q1⟩ := ih (p + 1) (by omega) (by omega) (uI I 89 7 (nI (p + 1))) (TpM_c t (FrK_u (by omega))) uI_s
      refine ⟨I1, FrK_t (FrK_u (by omega)) f1, by rw [wl_y (by omega) c]; exact k1, fun Q => ?_⟩
      rw [← q1 Q, x187_0]
      have c' := of_decide_eq_true c
      by_cases c1 : b p = 32
      · simp (disch := first | assumption | omega | decide) only [x187_1, x187_2, x187_3, x187_4, x187_5, x187_6, x187_7, x187_8, x187_9, x187_10, x187_11, x187_12, x187_13, x187_14, x187_15, x187_16, x187_17, x187_18, ↓reduceIte, Option.toList, List.nil_append, List.cons_append, nI_add, pk_mul, n_and, n_or, n_xor, nI_leI, nI_ltI, nI_eq, n_z, uI_s, uI_n, bI_n0, bI_n1, bT, bF, if_true, if_false, not_true, not_false_eq_true, pk_div, pk_rem, Nat.reduceEqDiff, Nat.reduceLeDiff, Nat.reduceLT, Nat.reduceAdd, Nat.reduceMul, Nat.reduceSub, Nat.not_lt_zero, Nat.zero_le, reduceCtorEq, ite_self, n_rem, and_self, and_true, true_and, and_false, false_and, h4, by', c1]
      · have c2 : b p = 10 := by omega
        simp (disch := first | assumption | omega | decide) only [x187_1, x187_2, x187_3, x187_4, x187_5, x187_6, x187_7, x187_8, x187_9, x187_10, x187_11, x187_12, x187_13, x187_14, x187_15, x187_16, x187_17, x187_18, ↓reduceIte, Option.toList, List.nil_append, List.cons_append, nI_add, pk_mul, n_and, n_or, n_xor, nI_leI, nI_ltI, nI_eq, n_z, uI_s, uI_n, bI_n0, bI_n1, bT, bF, if_true, if_false, not_true, not_false_eq_true, pk_div, pk_rem, Nat.reduceEqDiff, Nat.reduceLeDiff, Nat.reduceLT, Nat.reduceAdd, Nat.reduceMul, Nat.reduceSub, Nat.not_lt_zero, Nat.zero_le, reduceCtorEq, ite_self, n_rem, and_self, and_true, true_and, and_false, false_and, h4, by', c2]
    · have c' : ¬ (b p = 32 ∨ b p = 10) := fun h => c (decide_eq_true h)
      have c1 : ¬ b p = 32 := fun h => c' (Or.inl h)
      have c2 : ¬ b p = 10 := fun h => c' (Or.inr h)
      refine ⟨I, FrK_r, by rw [wl_n (fun h => c h.2)]; exact h4, fun Q => ?_⟩
      rw [x187_0]
      simp (disch := first | assumption | omega | decide) only [x187_1, x187_2, x187_3, x187_4, x187_5, x187_6, x187_7, x187_8, x187_9, x187_10, x187_11, x187_12, x187_13, x187_14, x187_15, x187_16, x187_17, x187_18, ↓reduceIte, Option.toList, List.nil_append, List.cons_append, nI_add, pk_mul, n_and, n_or, n_xor, nI_leI, nI_ltI, nI_eq, n_z, uI_s, uI_n, bI_n0, bI_n1, bT, bF, if_true, if_false, not_true, not_false_eq_true, pk_div, pk_rem, Nat.reduceEqDiff, Nat.reduceLeDiff, Nat.reduceLT, Nat.reduceAdd, Nat.reduceMul, Nat.reduceSub, Nat.not_lt_zero, Nat.zero_le, reduceCtorEq, ite_self, n_rem, and_self, and_true, true_and, and_false, false_and, h4, by', c1, c2]
theorem lpm_digit {J : Nat → Nat → Int64} {q : Nat} {c0 : Int32} : ∀ (m p : Nat), n - p = m → q ≤ p → p ≤ n → (∀ i, q ≤ i → i < p → isD (b i) = true) → ∀ I : Nat → Nat → Int32, TpM I b n → I 89 7 = nI p → I 89 10 = nI (rnF b q (p - q)) → ∃ I', FrK I I' ∧ I' 89 7 = nI (wlN isD b n p) ∧ I' 89 8 = I 89 8 ∧ I' 89 9 = I 89 9 ∧ I' 89 10 = nI (rnF b q (wlN isD b n p - q)) ∧ ∀ Q, Rn sc (d + 1) 187 43 [some (.ref 89), some (.int c0)] [] (K0, I, J, R1 T) Q = Q none (K0, I', J, R1 T) := by
  intro m
  induction m with
  | zero =>
    intro p hm hq hp hD I t h4 h7
    have n3 := t.1
    have by' := fun Q => sp_byteN (sc := sc) (d := d) (T := T) (J := J) (Q := Q) t (show n ≤ p by omega) (by omega)
    have ew : wlN isD b n p = p := wl_n (by omega)
    rw [ew]
    refine ⟨I, FrK_r, h4, rfl, rfl, h7, fun Q => ?_⟩
    rw [x187_43]
    simp (disch := first | assumption | omega | decide) only [x187_44, x187_45, x187_46, x187_47, x187_48, x187_159, ↓reduceIte, Option.toList, List.nil_append, List.cons_append, nI_add, pk_mul, n_and, n_or, n_xor, nI_leI, nI_ltI, nI_eq, n_z, uI_s, uI_n, bI_n0, bI_n1, bT, bF, if_true, if_false, not_true, not_false_eq_true, pk_div, pk_rem, Nat.reduceEqDiff, Nat.reduceLeDiff, Nat.reduceLT, Nat.reduceAdd, Nat.reduceMul, Nat.reduceSub, Nat.not_lt_zero, Nat.zero_le, reduceCtorEq, ite_self, n_rem, and_self, and_true, true_and, and_false, false_and, h4, by', sp_isFigm]
  | succ m ih =>
    intro p hm hq hp hD I t h4 h7
    have n3 := t.1
    have b2 := (t.2.2 p (by omega)).2
    have by' := fun Q => sp_byteY (sc := sc) (d := d) (T := T) (J := J) (Q := Q) t (show p < n by omega)
    have sl := fun Q => sp_isFig (sc := sc) (d := d) (I := I) (J := J) (T := T) (Q := Q) b2
    by_cases c : isD (b p) = true
    · have c' : 48 ≤ b p ∧ b p ≤ 57 := of_decide_eq_true c
      have nl := rn_lt (b := b) (q := q) (p - q) (fun i hi => (of_decide_eq_true (hD (q + i) (by omega) (by omega))).2)
      obtain ⟨I2, eI⟩ : ∃ X, X = uI (uI I 89 10 (nI (rnF b q (p + 1 - q)))) 89 7 (nI (p + 1)) := ⟨_, rfl⟩
      have f2 : FrK I I2 := by
        rw [eI]
        exact FrK_t (FrK_u (by omega)) (FrK_u (by omega))
      obtain ⟨I1, f1, k4, k5, k6, k7, q1⟩ := ih (p + 1) (by omega) (by omega) (by omega) (fun i h1 h2 => by
        by_cases e : i = p
        · rw [e]; exact c
        · exact hD i h1 (by omega)) I2 (TpM_c t f2) (by rw [eI, uI_s]) (by rw [eI, uI_n (by omega), uI_s])
      rw [wl_y (by omega) c]
      refine ⟨I1, FrK_t f2 f1, k4, by rw [k5, eI, uI_n (by omega), uI_n (by omega)], by rw [k6, eI, uI_n (by omega), uI_n (by omega)], k7, fun Q => ?_⟩
      have ev : rnF b q (p + 1 - q) = if 99999 < rnF b q (p - q) then rnF b q (p - q) else 10 * rnF b q (p - q) + b p - 48 := by
        rw [show p + 1 - q = p - q + 1 by omega, rnF, show q + (p - q) = p by omega]
      rw [bI_t c] at sl
      rw [← q1 Q, eI, x187_43]
      by_cases c3 : 99999 < rnF b q (p - q)
      · have c4 : ¬ rnF b q (p - q) ≤ 99999 := by omega
        rw [if_pos c3] at ev
        rw [ev]
        simp (disch := first | assumption | omega | decide) only [x187_44, x187_45, x187_46, x187_47, x187_48, x187_49, x187_50, x187_51, x187_52, x187_53, x187_54, x187_55, x187_56, x187_57, x187_58, x187_59, x187_60, x187_61, x187_62, x187_63, x187_64, x187_65, x187_66, x187_67, x187_68, x187_69, x187_70, x187_71, x187_72, x187_73, x187_74, x187_75, ↓reduceIte, Option.toList, List.nil_append, List.cons_append, nI_add, pk_mul, n_and, n_or, n_xor, nI_leI, nI_ltI, nI_eq, n_z, uI_s, uI_n, bI_n0, bI_n1, bT, bF, if_true, if_false, not_true, not_false_eq_true, pk_div, pk_rem, Nat.reduceEqDiff, Nat.reduceLeDiff, Nat.reduceLT, Nat.reduceAdd, Nat.reduceMul, Nat.reduceSub, Nat.not_lt_zero, Nat.zero_le, reduceCtorEq, ite_self, n_rem, and_self, and_true, true_and, and_false, false_and, h4, by', sl, h7, c4]
      · have c4 : rnF b q (p - q) ≤ 99999 := by omega
        rw [if_neg c3] at ev
        rw [ev]
        simp (disch := first | assumption | omega | decide) only [x187_44, x187_45, x187_46, x187_47, x187_48, x187_49, x187_50, x187_51, x187_52, x187_53, x187_54, x187_55, x187_56, x187_57, x187_58, x187_59, x187_60, x187_61, x187_62, x187_63, x187_64, x187_65, x187_66, x187_67, x187_68, x187_69, x187_70, x187_71, x187_72, x187_73, x187_74, x187_75, ↓reduceIte, Option.toList, List.nil_append, List.cons_append, nI_add, pk_mul, n_and, n_or, n_xor, nI_leI, nI_ltI, nI_eq, n_z, uI_s, uI_n, bI_n0, bI_n1, bT, bF, if_true, if_false, not_true, not_false_eq_true, pk_div, pk_rem, Nat.reduceEqDiff, Nat.reduceLeDiff, Nat.reduceLT, Nat.reduceAdd, Nat.reduceMul, Nat.reduceSub, Nat.not_lt_zero, Nat.zero_le, reduceCtorEq, ite_self, n_rem, and_self, and_true, true_and, and_false, false_and, h4, by', sl, h7, n_sub (show 48 ≤ 10 * rnF b q (p - q) + b p by omega), c4]
    · rw [bI_f c] at sl
      have ew : wlN isD b n p = p := wl_n (fun h => c h.2)
      rw [ew]
      refine ⟨I, FrK_r, h4, rfl, rfl, h7, fun Q => ?_⟩
      rw [x187_43]
      simp (disch := first | assumption | omega | decide) only [x187_44, x187_45, x187_46, x187_47, x187_48, x187_159, ↓reduceIte, Option.toList, List.nil_append, List.cons_append, nI_add, pk_mul, n_and, n_or, n_xor, nI_leI, nI_ltI, nI_eq, n_z, uI_s, uI_n, bI_n0, bI_n1, bT, bF, if_true, if_false, not_true, not_false_eq_true, pk_div, pk_rem, Nat.reduceEqDiff, Nat.reduceLeDiff, Nat.reduceLT, Nat.reduceAdd, Nat.reduceMul, Nat.reduceSub, Nat.not_lt_zero, Nat.zero_le, reduceCtorEq, ite_self, n_rem, and_self, and_true, true_and, and_false, false_and, h4, by', sl]
theorem lpm_letter {q : Nat} {c0 : Int32} : ∀ (m p : Nat), n - p = m → q ≤ p → p ≤ n → ∀ (I : Nat → Nat → Int32) (J : Nat → Nat → Int64), TpM I b n → I 89 7 = nI p → J 89 11 = lN (wdF b q (p - q)) → ∃ I' J', FrK I I' ∧ I' 89 7 = nI (wlN isL b n p) ∧ I' 89 8 = I 89 8 ∧ I' 89 9 = I 89 9 ∧ J' 89 11 = lN (wdF b q (wlN isL b n p - q)) ∧ ∀ Q, Rn sc (d + 1) 187 85 [some (.ref 89), some (.int c0)] [] (K0, I, J, R1 T) Q = Q none (K0, I', J', R1 T) := by
  intro m
  induction m with
  | zero =>
    intro p hm hq hp I J t h4 h7
    have n3 := t.1
    have by' := fun Q => sp_byteN (sc := sc) (d := d) (T := T) (J := J) (Q := Q) t (show n ≤ p by omega) (by omega)
    have ew : wlN isL b n p = p := wl_n (by omega)
    rw [ew]
    refine ⟨I, J, FrK_r, h4, rfl, rfl, h7, fun Q => ?_⟩
    rw [x187_85]
    simp (disch := first | assumption | omega | decide) only [x187_86, x187_87, x187_88, x187_89, x187_90, x187_159, ↓reduceIte, Option.toList, List.nil_append, List.cons_append, nI_add, pk_mul, n_and, n_or, n_xor, nI_leI, nI_ltI, nI_eq, n_z, uI_s, uI_n, bI_n0, bI_n1, bT, bF, if_true, if_false, not_true, not_false_eq_true, pk_div, pk_rem, Nat.reduceEqDiff, Nat.reduceLeDiff, Nat.reduceLT, Nat.reduceAdd, Nat.reduceMul, Nat.reduceSub, Nat.not_lt_zero, Nat.zero_le, reduceCtorEq, ite_self, n_rem, and_self, and_true, true_and, and_false, false_and, h4, by', sp_isLBm]
  | succ m ih =>
    intro p hm hq hp I J t h4 h7
    have n3 := t.1
    have b2 := (t.2.2 p (by omega)).2
    have by' := fun Q => sp_byteY (sc := sc) (d := d) (T := T) (J := J) (Q := Q) t (show p < n by omega)
    have sl := fun Q => sp_isLB (sc := sc) (d := d) (I := I) (J := J) (T := T) (Q := Q) b2
    by_cases c : isL (b p) = true
    · have wl' := wd_lt (b := b) (q := q) (p - q) (fun i hi => (t.2.2 (q + i) (by omega)).2)
      obtain ⟨J2, eJ⟩ : ∃ X, X = uJ J 89 11 (lN (wdF b q (p + 1 - q))) := ⟨_, rfl⟩
      obtain ⟨I1, J1, f1, k4, k5, k6, k7, q1⟩ := ih (p + 1) (by omega) (by omega) (by omega) (uI I 89 7 (nI (p + 1))) J2 (TpM_c t (FrK_u (by omega))) uI_s (by rw [eJ, uJ_s])
      rw [wl_y (by omega) c]
      refine ⟨I1, J1, FrK_t (FrK_u (by omega)) f1, k4, by rw [k5, uI_n (by omega)], by rw [k6, uI_n (by omega)], k7, fun Q => ?_⟩
      have ev : wdF b q (p + 1 - q) = if 2 ^ 48 ≤ wdF b q (p - q) then 2 ^ 60 else wdF b q (p - q) * 256 + b p := by
        rw [show p + 1 - q = p - q + 1 by omega, wdF, show q + (p - q) = p by omega]
      rw [bI_t c] at sl
      have cl := l_48 wl'
      rw [← q1 Q, eJ, x187_85]
      by_cases c3 : 2 ^ 48 ≤ wdF b q (p - q)
      · have c4 : ¬ wdF b q (p - q) < 2 ^ 48 := by omega
        rw [if_pos c3] at ev
        rw [ev]
        have e60 : (1152921504606846976 : Int64) = lN (2 ^ 60) := by decide
        simp (disch := first | assumption | omega | decide) only [x187_86, x187_87, x187_88, x187_89, x187_90, x187_91, x187_92, x187_93, x187_94, x187_95, x187_96, x187_97, x187_98, x187_99, x187_100, x187_101, x187_102, x187_103, x187_104, x187_105, x187_106, x187_107, x187_108, x187_109, x187_110, x187_111, x187_112, x187_113, x187_114, x187_115, x187_116, x187_117, x187_118, ↓reduceIte, Option.toList, List.nil_append, List.cons_append, nI_add, pk_mul, n_and, n_or, n_xor, nI_leI, nI_ltI, nI_eq, n_z, uI_s, uI_n, bI_n0, bI_n1, bT, bF, if_true, if_false, not_true, not_false_eq_true, pk_div, pk_rem, Nat.reduceEqDiff, Nat.reduceLeDiff, Nat.reduceLT, Nat.reduceAdd, Nat.reduceMul, Nat.reduceSub, Nat.not_lt_zero, Nat.zero_le, reduceCtorEq, ite_self, n_rem, and_self, and_true, true_and, and_false, false_and, h4, by', sl, h7, cl, c4, e60]
      · have c4 : wdF b q (p - q) < 2 ^ 48 := by omega
        rw [if_neg c3] at ev
        rw [ev]
        simp (disch := first | assumption | omega | decide) only [x187_86, x187_87, x187_88, x187_89, x187_90, x187_91, x187_92, x187_93, x187_94, x187_95, x187_96, x187_97, x187_98, x187_99, x187_100, x187_101, x187_102, x187_103, x187_104, x187_105, x187_106, x187_107, x187_108, x187_109, x187_110, x187_111, x187_112, x187_113, x187_114, x187_115, x187_116, x187_117, x187_118, ↓reduceIte, Option.toList, List.nil_append, List.cons_append, nI_add, pk_mul, n_and, n_or, n_xor, nI_leI, nI_ltI, nI_eq, n_z, uI_s, uI_n, bI_n0, bI_n1, bT, bF, if_true, if_false, not_true, not_false_eq_true, pk_div, pk_rem, Nat.reduceEqDiff, Nat.reduceLeDiff, Nat.reduceLT, Nat.reduceAdd, Nat.reduceMul, Nat.reduceSub, Nat.not_lt_zero, Nat.zero_le, reduceCtorEq, ite_self, n_rem, and_self, and_true, true_and, and_false, false_and, h4, by', sl, h7, cl, c4, l_shl c4, nI_l (show b p < 2 ^ 31 by omega), l_or c4 b2]
    · rw [bI_f c] at sl
      have ew : wlN isL b n p = p := wl_n (fun h => c h.2)
      rw [ew]
      refine ⟨I, J, FrK_r, h4, rfl, rfl, h7, fun Q => ?_⟩
      rw [x187_85]
      simp (disch := first | assumption | omega | decide) only [x187_86, x187_87, x187_88, x187_89, x187_90, x187_159, ↓reduceIte, Option.toList, List.nil_append, List.cons_append, nI_add, pk_mul, n_and, n_or, n_xor, nI_leI, nI_ltI, nI_eq, n_z, uI_s, uI_n, bI_n0, bI_n1, bT, bF, if_true, if_false, not_true, not_false_eq_true, pk_div, pk_rem, Nat.reduceEqDiff, Nat.reduceLeDiff, Nat.reduceLT, Nat.reduceAdd, Nat.reduceMul, Nat.reduceSub, Nat.not_lt_zero, Nat.zero_le, reduceCtorEq, ite_self, n_rem, and_self, and_true, true_and, and_false, false_and, h4, by', sl]
theorem lt_le : ∀ c, c < 256 → (sK c = 28 ↔ c = 60) ∧ (sK c = 29 ↔ c = 62) := by decide +kernel
theorem l2_e {q : Nat} (hq : b q < 256) : le2 b n q = lt2 b n q := by
  have := lt_le (b q) hq
  unfold le2 lt2
  exact decide_eq_decide.mpr (by rw [this.1, this.2])
theorem sp_nextM {I : Nat → Nat → Int32} {J : Nat → Nat → Int64} {p : Nat} (t : TpM I b n) (hp : p ≤ n) (h4 : I 89 7 = nI p) : ∃ I' J', FrK I I' ∧ TkM I' J' b n p ∧ ∀ Q, Rn sc (d + 1) 187 0 [some (.ref 89), none] [] (K0, I, J, R1 T) Q = Q none (K0, I', J', R1 T) := by
  have n3 := t.1
  obtain ⟨I1, f1, k1, q1⟩ := lpm_blank (sc := sc) (d := d) (T := T) (J := J) (n - p) p rfl hp I t h4
  obtain ⟨g1, g2⟩ := tS_le (b := b) hp
  have k1 : I1 89 7 = nI (tS b n p) := k1
  unfold TkM tX tT tV tW
  obtain ⟨q, eq⟩ : ∃ q, q = tS b n p := ⟨_, rfl⟩
  rw [← eq] at k1 g1 g2 ⊢
  obtain ⟨I2, eI⟩ : ∃ X, X = uI I1 89 8 (nI q) := ⟨_, rfl⟩
  have f2 : FrK I I2 := by
    rw [eI]
    exact FrK_t f1 (FrK_u (by omega))
  have t2 := TpM_c t f2
  have a4 : I2 89 7 = nI q := by rw [eI, uI_n (by omega)]; exact k1
  have a5 : I2 89 8 = nI q := by rw [eI, uI_s]
  have st : ∀ Q, Rn sc (d + 1) 187 0 [some (.ref 89), none] [] (K0, I, J, R1 T) Q = Rn sc (d + 1) 187 23 [some (.ref 89), none] [] (K0, I2, J, R1 T) Q := fun Q => by
    rw [q1 Q, eI]
    simp (disch := first | assumption | omega | decide) only [x187_19, x187_20, x187_21, x187_22, ↓reduceIte, Option.toList, List.nil_append, List.cons_append, nI_add, pk_mul, n_and, n_or, n_xor, nI_leI, nI_ltI, nI_eq, n_z, uI_s, uI_n, bI_n0, bI_n1, bT, bF, if_true, if_false, not_true, not_false_eq_true, pk_div, pk_rem, Nat.reduceEqDiff, Nat.reduceLeDiff, Nat.reduceLT, Nat.reduceAdd, Nat.reduceMul, Nat.reduceSub, Nat.not_lt_zero, Nat.zero_le, reduceCtorEq, ite_self, n_rem, and_self, and_true, true_and, and_false, false_and, k1]
  unfold tkq nxq
  by_cases c : n ≤ q
  · have by' := fun Q => sp_byteN (sc := sc) (d := d) (T := T) (J := J) (Q := Q) t2 c (by omega)
    rw [if_pos c, if_pos c]
    refine ⟨uI I2 89 9 (nI 0), J, FrK_t f2 (FrK_u (by omega)), ⟨by rw [uI_n (by omega)]; exact a4, by rw [uI_n (by omega)]; exact a5, uI_s, fun h => by omega, fun h => by omega⟩, fun Q => ?_⟩
    rw [st Q]
    simp (disch := first | assumption | omega | decide) only [x187_23, x187_24, x187_25, x187_26, x187_27, x187_28, x187_29, x187_30, x187_31, x187_32, x187_33, x187_159, ↓reduceIte, Option.toList, List.nil_append, List.cons_append, nI_add, pk_mul, n_and, n_or, n_xor, nI_leI, nI_ltI, nI_eq, n_z, uI_s, uI_n, bI_n0, bI_n1, bT, bF, if_true, if_false, not_true, not_false_eq_true, pk_div, pk_rem, Nat.reduceEqDiff, Nat.reduceLeDiff, Nat.reduceLT, Nat.reduceAdd, Nat.reduceMul, Nat.reduceSub, Nat.not_lt_zero, Nat.zero_le, reduceCtorEq, ite_self, n_rem, and_self, and_true, true_and, and_false, false_and, a4, by', show (nI 0 ≤ (-1 : Int32)) = False from eq_false (by decide)]
  · have c' : q < n := by omega
    obtain ⟨e2, b2⟩ := t2.2.2 q c'
    have q3 : q < 300 := by omega
    have by' := fun Q => sp_byteY (sc := sc) (d := d) (T := T) (J := J) (Q := Q) t2 c'
    have sl := fun Q => sp_isLB (sc := sc) (d := d) (I := I2) (J := J) (T := T) (Q := Q) b2
    have sd := fun Q => sp_isFig (sc := sc) (d := d) (I := I2) (J := J) (T := T) (Q := Q) b2
    have ss := fun Q => sp_isSg (sc := sc) (d := d) (I := I2) (J := J) (T := T) (Q := Q) b2
    rw [if_neg c, if_neg c]
    by_cases c2 : isD (b q) = true
    · have c1 : ¬ isL (b q) = true := fun h => by
        have h1 := of_decide_eq_true h
        have h2 := of_decide_eq_true c2
        omega
      rw [bI_t c2] at sd
      obtain ⟨I3, eI3⟩ : ∃ X, X = uI (uI I2 89 9 (nI 1)) 89 10 (nI 0) := ⟨_, rfl⟩
      have f3 : FrK I2 I3 := by
        rw [eI3]
        exact FrK_t (FrK_u (by omega)) (FrK_u (by omega))
      obtain ⟨I4, f4, b4, b5, b6, b7, q4⟩ := lpm_digit (sc := sc) (d := d) (T := T) (J := J) (q := q) (c0 := nI (b q)) (n - q) q rfl (Nat.le_refl q) g2 (fun i h1 h2 => by omega) I3 (TpM_c t2 f3) (by rw [eI3, uI_n (by omega), uI_n (by omega)]; exact a4) (by rw [eI3, uI_s, Nat.sub_self]; rfl)
      obtain ⟨w1, w2, w3, -⟩ := wl_sp (P := isD) (b := b) (n := n) (n - q) q rfl g2
      rw [if_neg c1, if_pos c2, if_pos c2]
      refine ⟨I4, J, FrK_t f2 (FrK_t f3 f4), ⟨b4, by rw [b5, eI3, uI_n (by omega), uI_n (by omega)]; exact a5, by rw [b6, eI3, uI_n (by omega), uI_s], fun _ => ⟨_, rn_lt _ (fun i hi => (of_decide_eq_true (w3 (q + i) (by omega) (by omega))).2), b7, rn_nv _ (fun i hi => (of_decide_eq_true (w3 (q + i) (by omega) (by omega))).1)⟩, fun h => by omega⟩, fun Q => ?_⟩
      have q4' := q4
      rw [eI3] at q4'
      rw [st Q]
      simp (disch := first | assumption | omega | decide) only [x187_23, x187_24, x187_25, x187_26, x187_27, x187_28, x187_29, x187_30, x187_31, x187_32, x187_33, x187_34, x187_35, x187_36, x187_37, x187_38, x187_39, x187_40, x187_41, x187_42, ↓reduceIte, Option.toList, List.nil_append, List.cons_append, nI_add, pk_mul, n_and, n_or, n_xor, nI_leI, nI_ltI, nI_eq, n_z, uI_s, uI_n, bI_n0, bI_n1, bT, bF, if_true, if_false, not_true, not_false_eq_true, pk_div, pk_rem, Nat.reduceEqDiff, Nat.reduceLeDiff, Nat.reduceLT, Nat.reduceAdd, Nat.reduceMul, Nat.reduceSub, Nat.not_lt_zero, Nat.zero_le, reduceCtorEq, ite_self, n_rem, and_self, and_true, true_and, and_false, false_and, a4, by', sd, q4']
    · rw [bI_f c2] at sd
      by_cases c1 : isL (b q) = true
      · rw [bI_t c1] at sl
        obtain ⟨I4, J4, f4, b4, b5, b6, b7, q4⟩ := lpm_letter (sc := sc) (d := d) (T := T) (q := q) (c0 := nI (b q)) (n - q) q rfl (Nat.le_refl q) g2 (uI I2 89 9 (nI 2)) (uJ J 89 11 0) (TpM_c t2 (FrK_u (by omega))) (by rw [uI_n (by omega)]; exact a4) (by rw [uJ_s, Nat.sub_self]; rfl)
        rw [if_pos c1, if_neg c2, if_pos c1]
        refine ⟨I4, J4, FrK_t f2 (FrK_t (FrK_u (by omega)) f4), ⟨b4, by rw [b5, uI_n (by omega)]; exact a5, by rw [b6, uI_s], fun h => by omega, fun _ => b7⟩, fun Q => ?_⟩
        rw [st Q]
        simp (disch := first | assumption | omega | decide) only [x187_23, x187_24, x187_25, x187_26, x187_27, x187_28, x187_29, x187_30, x187_31, x187_32, x187_33, x187_34, x187_35, x187_36, x187_76, x187_77, x187_78, x187_79, x187_80, x187_81, x187_82, x187_83, x187_84, ↓reduceIte, Option.toList, List.nil_append, List.cons_append, nI_add, pk_mul, n_and, n_or, n_xor, nI_leI, nI_ltI, nI_eq, n_z, uI_s, uI_n, bI_n0, bI_n1, bT, bF, if_true, if_false, not_true, not_false_eq_true, pk_div, pk_rem, Nat.reduceEqDiff, Nat.reduceLeDiff, Nat.reduceLT, Nat.reduceAdd, Nat.reduceMul, Nat.reduceSub, Nat.not_lt_zero, Nat.zero_le, reduceCtorEq, ite_self, n_rem, and_self, and_true, true_and, and_false, false_and, a4, by', sd, sl, q4]
      · rw [bI_f c1] at sl
        rw [if_neg c1, if_neg c2, if_neg c2, if_neg c1, ← l2_e b2]
        obtain ⟨x, ex⟩ : ∃ x, x = if sgB (b q) = true then b q else 3 := ⟨_, rfl⟩
        have x256 : x < 256 := by
          rw [ex]
          split <;> omega
        obtain ⟨I3, eI3⟩ : ∃ X, X = uI (uI I2 89 9 (nI x)) 89 7 (nI (q + 1)) := ⟨_, rfl⟩
        have f3 : FrK I2 I3 := by
          rw [eI3]
          exact FrK_t (FrK_u (by omega)) (FrK_u (by omega))
        have t3 := TpM_c t2 f3
        have a7 : I3 89 7 = nI (q + 1) := by rw [eI3, uI_s]
        have a8 : I3 89 8 = nI q := by rw [eI3, uI_n (by omega), uI_n (by omega)]; exact a5
        have a9 : I3 89 9 = nI x := by rw [eI3, uI_n (by omega), uI_s]
        have st2 : ∀ Q, Rn sc (d + 1) 187 0 [some (.ref 89), none] [] (K0, I, J, R1 T) Q = Rn sc (d + 1) 187 133 [some (.ref 89), some (.int (nI (b q)))] [] (K0, I3, J, R1 T) Q := fun Q => by
          rw [st Q, eI3]
          by_cases cs : sgB (b q) = true
          · rw [if_pos cs] at ex
            rw [bI_t cs] at ss
            rw [ex]
            simp (disch := first | assumption | omega | decide) only [x187_23, x187_24, x187_25, x187_26, x187_27, x187_28, x187_29, x187_30, x187_31, x187_32, x187_33, x187_34, x187_35, x187_36, x187_76, x187_77, x187_78, x187_119, x187_120, x187_121, x187_122, x187_123, x187_124, x187_125, x187_126, x187_127, x187_128, x187_129, x187_130, x187_131, x187_132, ↓reduceIte, Option.toList, List.nil_append, List.cons_append, nI_add, pk_mul, n_and, n_or, n_xor, nI_leI, nI_ltI, nI_eq, n_z, uI_s, uI_n, bI_n0, bI_n1, bT, bF, if_true, if_false, not_true, not_false_eq_true, pk_div, pk_rem, Nat.reduceEqDiff, Nat.reduceLeDiff, Nat.reduceLT, Nat.reduceAdd, Nat.reduceMul, Nat.reduceSub, Nat.not_lt_zero, Nat.zero_le, reduceCtorEq, ite_self, n_rem, and_self, and_true, true_and, and_false, false_and, a4, by', sd, sl, ss]
          · rw [if_neg cs] at ex
            rw [bI_f cs] at ss
            rw [ex]
            simp (disch := first | assumption | omega | decide) only [x187_23, x187_24, x187_25, x187_26, x187_27, x187_28, x187_29, x187_30, x187_31, x187_32, x187_33, x187_34, x187_35, x187_36, x187_76, x187_77, x187_78, x187_119, x187_120, x187_121, x187_122, x187_123, x187_124, x187_125, x187_126, x187_127, x187_128, x187_129, x187_130, x187_131, x187_132, ↓reduceIte, Option.toList, List.nil_append, List.cons_append, nI_add, pk_mul, n_and, n_or, n_xor, nI_leI, nI_ltI, nI_eq, n_z, uI_s, uI_n, bI_n0, bI_n1, bT, bF, if_true, if_false, not_true, not_false_eq_true, pk_div, pk_rem, Nat.reduceEqDiff, Nat.reduceLeDiff, Nat.reduceLT, Nat.reduceAdd, Nat.reduceMul, Nat.reduceSub, Nat.not_lt_zero, Nat.zero_le, reduceCtorEq, ite_self, n_rem, and_self, and_true, true_and, and_false, false_and, a4, by', sd, sl, ss]
        by_cases cl : le2 b n q = true
        · obtain ⟨l1, l2, l3⟩ := of_decide_eq_true cl
          have by2 := fun Q => sp_byteY (sc := sc) (d := d) (T := T) (J := J) (Q := Q) t3 l2
          rw [l3] at by2
          rw [if_pos cl, if_pos cl]
          refine ⟨uI (uI I3 89 9 (nI (if b q = 60 then 4 else 5))) 89 7 (nI (q + 2)), J, FrK_t f2 (FrK_t f3 (FrK_t (FrK_u (by omega)) (FrK_u (by omega)))), ⟨uI_s, by rw [uI_n (by omega), uI_n (by omega)]; exact a8, by rw [uI_n (by omega), uI_s], fun h => ?_, fun h => ?_⟩, fun Q => ?_⟩
          · split at h <;> omega
          · split at h <;> omega
          · rw [st2 Q]
            rcases l1 with l1 | l1
            · rw [if_pos l1]
              simp (disch := first | assumption | omega | decide) only [x187_133, x187_134, x187_135, x187_136, x187_137, x187_138, x187_139, x187_140, x187_141, x187_142, x187_143, x187_144, x187_145, x187_146, x187_147, x187_148, x187_149, x187_150, x187_151, x187_152, x187_153, x187_154, x187_155, x187_156, x187_157, x187_158, x187_159, ↓reduceIte, Option.toList, List.nil_append, List.cons_append, nI_add, pk_mul, n_and, n_or, n_xor, nI_leI, nI_ltI, nI_eq, n_z, uI_s, uI_n, bI_n0, bI_n1, bT, bF, if_true, if_false, not_true, not_false_eq_true, pk_div, pk_rem, Nat.reduceEqDiff, Nat.reduceLeDiff, Nat.reduceLT, Nat.reduceAdd, Nat.reduceMul, Nat.reduceSub, Nat.not_lt_zero, Nat.zero_le, reduceCtorEq, ite_self, n_rem, and_self, and_true, true_and, and_false, false_and, l1, a7, by2]
            · rw [if_neg (by omega)]
              simp (disch := first | assumption | omega | decide) only [x187_133, x187_134, x187_135, x187_136, x187_137, x187_138, x187_139, x187_140, x187_141, x187_142, x187_143, x187_144, x187_145, x187_146, x187_147, x187_148, x187_149, x187_150, x187_151, x187_152, x187_153, x187_154, x187_155, x187_156, x187_157, x187_158, x187_159, ↓reduceIte, Option.toList, List.nil_append, List.cons_append, nI_add, pk_mul, n_and, n_or, n_xor, nI_leI, nI_ltI, nI_eq, n_z, uI_s, uI_n, bI_n0, bI_n1, bT, bF, if_true, if_false, not_true, not_false_eq_true, pk_div, pk_rem, Nat.reduceEqDiff, Nat.reduceLeDiff, Nat.reduceLT, Nat.reduceAdd, Nat.reduceMul, Nat.reduceSub, Nat.not_lt_zero, Nat.zero_le, reduceCtorEq, ite_self, n_rem, and_self, and_true, true_and, and_false, false_and, l1, a7, by2]
        · rw [if_neg cl, if_neg cl]
          refine ⟨I3, J, FrK_t f2 f3, ⟨a7, a8, by rw [a9, ex], fun h => ?_, fun h => ?_⟩, fun Q => ?_⟩
          · exfalso
            split at h
            · next cs =>
              have := of_decide_eq_true cs
              omega
            · omega
          · exfalso
            split at h
            · next cs =>
              have := of_decide_eq_true cs
              omega
            · omega
          · rw [st2 Q]
            by_cases l0 : b q = 60 ∨ b q = 62
            · by_cases l2 : q + 1 < n
              · have b3 := (t3.2.2 (q + 1) l2).2
                have by2 := fun Q => sp_byteY (sc := sc) (d := d) (T := T) (J := J) (Q := Q) t3 l2
                have l3 : ¬ b (q + 1) = 61 := fun h => cl (decide_eq_true ⟨l0, l2, h⟩)
                rcases l0 with l1 | l1
                · simp (disch := first | assumption | omega | decide) only [x187_133, x187_134, x187_135, x187_136, x187_137, x187_138, x187_139, x187_140, x187_141, x187_142, x187_143, x187_144, x187_145, x187_146, x187_147, x187_148, x187_149, x187_150, x187_151, x187_152, x187_153, x187_154, x187_155, x187_156, x187_157, x187_158, x187_159, ↓reduceIte, Option.toList, List.nil_append, List.cons_append, nI_add, pk_mul, n_and, n_or, n_xor, nI_leI, nI_ltI, nI_eq, n_z, uI_s, uI_n, bI_n0, bI_n1, bT, bF, if_true, if_false, not_true, not_false_eq_true, pk_div, pk_rem, Nat.reduceEqDiff, Nat.reduceLeDiff, Nat.reduceLT, Nat.reduceAdd, Nat.reduceMul, Nat.reduceSub, Nat.not_lt_zero, Nat.zero_le, reduceCtorEq, ite_self, n_rem, and_self, and_true, true_and, and_false, false_and, l1, a7, by2, l3]
                · simp (disch := first | assumption | omega | decide) only [x187_133, x187_134, x187_135, x187_136, x187_137, x187_138, x187_139, x187_140, x187_141, x187_142, x187_143, x187_144, x187_145, x187_146, x187_147, x187_148, x187_149, x187_150, x187_151, x187_152, x187_153, x187_154, x187_155, x187_156, x187_157, x187_158, x187_159, ↓reduceIte, Option.toList, List.nil_append, List.cons_append, nI_add, pk_mul, n_and, n_or, n_xor, nI_leI, nI_ltI, nI_eq, n_z, uI_s, uI_n, bI_n0, bI_n1, bT, bF, if_true, if_false, not_true, not_false_eq_true, pk_div, pk_rem, Nat.reduceEqDiff, Nat.reduceLeDiff, Nat.reduceLT, Nat.reduceAdd, Nat.reduceMul, Nat.reduceSub, Nat.not_lt_zero, Nat.zero_le, reduceCtorEq, ite_self, n_rem, and_self, and_true, true_and, and_false, false_and, l1, a7, by2, l3]
              · have by2 := fun Q => sp_byteN (sc := sc) (d := d) (T := T) (J := J) (Q := Q) t3 (show n ≤ q + 1 by omega) (by omega)
                rcases l0 with l1 | l1
                · simp (disch := first | assumption | omega | decide) only [x187_133, x187_134, x187_135, x187_136, x187_137, x187_138, x187_139, x187_140, x187_141, x187_142, x187_143, x187_144, x187_145, x187_146, x187_147, x187_148, x187_149, x187_150, x187_151, x187_152, x187_153, x187_154, x187_155, x187_156, x187_157, x187_158, x187_159, ↓reduceIte, Option.toList, List.nil_append, List.cons_append, nI_add, pk_mul, n_and, n_or, n_xor, nI_leI, nI_ltI, nI_eq, n_z, uI_s, uI_n, bI_n0, bI_n1, bT, bF, if_true, if_false, not_true, not_false_eq_true, pk_div, pk_rem, Nat.reduceEqDiff, Nat.reduceLeDiff, Nat.reduceLT, Nat.reduceAdd, Nat.reduceMul, Nat.reduceSub, Nat.not_lt_zero, Nat.zero_le, reduceCtorEq, ite_self, n_rem, and_self, and_true, true_and, and_false, false_and, l1, a7, by2, n_m1e']
                · simp (disch := first | assumption | omega | decide) only [x187_133, x187_134, x187_135, x187_136, x187_137, x187_138, x187_139, x187_140, x187_141, x187_142, x187_143, x187_144, x187_145, x187_146, x187_147, x187_148, x187_149, x187_150, x187_151, x187_152, x187_153, x187_154, x187_155, x187_156, x187_157, x187_158, x187_159, ↓reduceIte, Option.toList, List.nil_append, List.cons_append, nI_add, pk_mul, n_and, n_or, n_xor, nI_leI, nI_ltI, nI_eq, n_z, uI_s, uI_n, bI_n0, bI_n1, bT, bF, if_true, if_false, not_true, not_false_eq_true, pk_div, pk_rem, Nat.reduceEqDiff, Nat.reduceLeDiff, Nat.reduceLT, Nat.reduceAdd, Nat.reduceMul, Nat.reduceSub, Nat.not_lt_zero, Nat.zero_le, reduceCtorEq, ite_self, n_rem, and_self, and_true, true_and, and_false, false_and, l1, a7, by2, n_m1e']
            · have l1 : ¬ b q = 60 := fun h => l0 (Or.inl h)
              have l2 : ¬ b q = 62 := fun h => l0 (Or.inr h)
              simp (disch := first | assumption | omega | decide) only [x187_133, x187_134, x187_135, x187_136, x187_137, x187_138, x187_139, x187_140, x187_141, x187_142, x187_143, x187_144, x187_145, x187_146, x187_147, x187_148, x187_149, x187_150, x187_151, x187_152, x187_153, x187_154, x187_155, x187_156, x187_157, x187_158, x187_159, ↓reduceIte, Option.toList, List.nil_append, List.cons_append, nI_add, pk_mul, n_and, n_or, n_xor, nI_leI, nI_ltI, nI_eq, n_z, uI_s, uI_n, bI_n0, bI_n1, bT, bF, if_true, if_false, not_true, not_false_eq_true, pk_div, pk_rem, Nat.reduceEqDiff, Nat.reduceLeDiff, Nat.reduceLT, Nat.reduceAdd, Nat.reduceMul, Nat.reduceSub, Nat.not_lt_zero, Nat.zero_le, reduceCtorEq, ite_self, n_rem, and_self, and_true, true_and, and_false, false_and, l1, l2]
end TokM
