/-! the tape's tokens: what they are, and the class's reading of them -/
def isL (c : Nat) : Bool := decide ((97 ≤ c ∧ c ≤ 122) ∨ (65 ≤ c ∧ c ≤ 90))
def isD (c : Nat) : Bool := decide (48 ≤ c ∧ c ≤ 57)
def isB (c : Nat) : Bool := decide (c = 32 ∨ c = 10)
/-- on while bytes are so -/
def wl (P : Nat → Bool) (b : Nat → Nat) (n : Nat) : Nat → Nat → Nat
  | 0, p => p
  | m + 1, p => if p < n ∧ P (b p) = true then wl P b n m (p + 1) else p
def wlN (P : Nat → Bool) (b : Nat → Nat) (n p : Nat) : Nat := wl P b n (n - p) p
theorem wl_y {P : Nat → Bool} {b : Nat → Nat} {n p : Nat} (h : p < n) (h2 : P (b p) = true) : wlN P b n p = wlN P b n (p + 1) := by
  unfold wlN
  rw [show n - p = n - (p + 1) + 1 by omega, wl, if_pos ⟨h, h2⟩]
theorem wl_n {P : Nat → Bool} {b : Nat → Nat} {n p : Nat} (h : ¬ (p < n ∧ P (b p) = true)) : wlN P b n p = p := by
  unfold wlN
  cases n - p with
  | zero => rfl
  | succ m => rw [wl, if_neg h]
theorem wl_sp {P : Nat → Bool} {b : Nat → Nat} {n : Nat} : ∀ m p, n - p = m → p ≤ n → p ≤ wlN P b n p ∧ wlN P b n p ≤ n ∧ (∀ i, p ≤ i → i < wlN P b n p → P (b i) = true) ∧ (wlN P b n p < n → P (b (wlN P b n p)) = false)
  | 0, p, hm, hp => by
    rw [wl_n (by omega)]
    exact ⟨Nat.le_refl _, hp, fun i h1 h2 => by omega, fun h => by omega⟩
  | m + 1, p, hm, hp => by
    by_cases c : P (b p) = true
    · obtain ⟨h1, h2, h3, h4⟩ := wl_sp (P := P) (b := b) (n := n) m (p + 1) (by omega) (by omega)
      rw [wl_y (by omega) c]
      refine ⟨by omega, h2, fun i hi hj => ?_, h4⟩
      by_cases e : i = p
      · rw [e]; exact c
      · exact h3 i (by omega) hj
    · rw [wl_n (fun h => c h.2)]
      refine ⟨Nat.le_refl _, hp, fun i h1 h2 => by omega, fun _ => ?_⟩
      cases cc : P (b p)
      · rfl
      · exact absurd cc c
theorem wl_ge {P : Nat → Bool} {b : Nat → Nat} {n p : Nat} (hp : p ≤ n) : p ≤ wlN P b n p := (wl_sp _ p rfl hp).1
theorem wl_le {P : Nat → Bool} {b : Nat → Nat} {n p : Nat} (hp : p ≤ n) : wlN P b n p ≤ n := (wl_sp _ p rfl hp).2.1
def wch (q : Nat) : Nat := vN ((roTB.getD 0 []).getD q 0)
def sch (j : Nat) : Nat := vN ((roTB.getD 1 []).getD j 0)
def mtC (b : Nat → Nat) (q e w i : Nat) : Bool := decide (wch (w * 8 + i) = if i < e - q then b (q + i) else 32)
def mtW (b : Nat → Nat) (q e w : Nat) : Bool := decide (e - q ≤ 8) && decide (fi (fun i => !mtC b q e w i) 8 = 8)
def wK (b : Nat → Nat) (q e : Nat) : Nat := if fi (mtW b q e) 28 < 28 then fi (mtW b q e) 28 else 43
def sK (c : Nat) : Nat := if fi (fun j => decide (sch j = c)) 11 < 11 then 28 + fi (fun j => decide (sch j = c)) 11 else 43
def lt2 (b : Nat → Nat) (n q : Nat) : Bool := decide ((sK (b q) = 28 ∨ sK (b q) = 29) ∧ q + 1 < n ∧ b (q + 1) = 61)
def kdq (b : Nat → Nat) (n q : Nat) : Nat := if n ≤ q then 42 else if isL (b q) = true then wK b q (wlN isL b n q) else if isD (b q) = true then 41 else if lt2 b n q = true then (if sK (b q) = 28 then 39 else 40) else sK (b q)
def nxq (b : Nat → Nat) (n q : Nat) : Nat := if n ≤ q then q else if isL (b q) = true then wlN isL b n q else if isD (b q) = true then wlN isD b n q else if lt2 b n q = true then q + 2 else q + 1
def nvF (b : Nat → Nat) (q : Nat) : Nat → Nat
  | 0 => 0
  | m + 1 => if 10000 < nvF b q m * 10 + b (q + m) - 48 then 10000 else nvF b q m * 10 + b (q + m) - 48
/-- of the token that comes behind p: where it begins, its kind, its number, where it ends -/
def tS (b : Nat → Nat) (n p : Nat) : Nat := wlN isB b n p
def tK (b : Nat → Nat) (n p : Nat) : Nat := kdq b n (tS b n p)
def tX (b : Nat → Nat) (n p : Nat) : Nat := nxq b n (tS b n p)
def tV (b : Nat → Nat) (n p : Nat) : Nat := nvF b (tS b n p) (wlN isD b n (tS b n p) - tS b n p)
theorem nv_le {b : Nat → Nat} {q : Nat} : ∀ m, nvF b q m ≤ 10000
  | 0 => Nat.zero_le _
  | m + 1 => by
    rw [nvF]
    split <;> omega
theorem nx_le {b : Nat → Nat} {n q : Nat} (hq : q ≤ n) : q ≤ nxq b n q ∧ nxq b n q ≤ n ∧ (q < n → q < nxq b n q) := by
  unfold nxq
  by_cases c : n ≤ q
  · rw [if_pos c]
    omega
  · rw [if_neg c]
    by_cases c1 : isL (b q) = true
    · rw [if_pos c1, wl_y (by omega) c1]
      have h1 := wl_ge (P := isL) (b := b) (show q + 1 ≤ n by omega)
      have h2 := wl_le (P := isL) (b := b) (show q + 1 ≤ n by omega)
      omega
    · rw [if_neg c1]
      by_cases c2 : isD (b q) = true
      · rw [if_pos c2, wl_y (by omega) c2]
        have h1 := wl_ge (P := isD) (b := b) (show q + 1 ≤ n by omega)
        have h2 := wl_le (P := isD) (b := b) (show q + 1 ≤ n by omega)
        omega
      · rw [if_neg c2]
        split
        · next h =>
          have := (of_decide_eq_true h).2.1
          omega
        · omega
theorem tS_le {b : Nat → Nat} {n p : Nat} (hp : p ≤ n) : p ≤ tS b n p ∧ tS b n p ≤ n := ⟨wl_ge hp, wl_le hp⟩
theorem tX_le {b : Nat → Nat} {n p : Nat} (hp : p ≤ n) : tS b n p ≤ tX b n p ∧ tX b n p ≤ n ∧ (tS b n p < n → tS b n p < tX b n p) := nx_le (tS_le hp).2
theorem kd_42 {b : Nat → Nat} {n q : Nat} : kdq b n q = 42 ↔ n ≤ q := by
  unfold kdq
  by_cases c : n ≤ q
  · rw [if_pos c]
    exact ⟨fun _ => c, fun _ => rfl⟩
  · rw [if_neg c]
    refine ⟨fun h => ?_, fun h => absurd h c⟩
    exfalso
    by_cases c1 : isL (b q) = true
    · rw [if_pos c1] at h
      unfold wK at h
      split at h <;> omega
    · rw [if_neg c1] at h
      by_cases c2 : isD (b q) = true
      · rw [if_pos c2] at h
        omega
      · rw [if_neg c2] at h
        have : sK (b q) ≠ 42 := by
          unfold sK
          split <;> omega
        split at h
        · split at h <;> omega
        · exact this h
theorem tK_42 {b : Nat → Nat} {n p : Nat} : tK b n p = 42 ↔ n ≤ tS b n p := kd_42
section Strs
variable {sc : Sc} {d : Nat} {I : Nat → Nat → Int32} {J : Nat → Nat → Int64} {T : Option Nat} {Q : Option Value → Mm → Prop}
theorem ch_all : ∀ q, q < 224 → (((roTB.getD 0 []).getD q (nI 0) &&& nI 255).toUInt32 % 65536).toInt32 = nI (wch q) := by decide +kernel
theorem wch_lt : ∀ q, q < 224 → wch q < 128 := by decide +kernel
theorem ix_all : ∀ j, j < 11 → ∀ c, c < 256 → ((roTB.getD 1 []).getD j (nI 0) = (nI c).toInt8.toInt32 ↔ sch j = c) := by decide +kernel
theorem i2c_all : ∀ c, c < 256 → ((nI c).toUInt32 % 65536).toInt32 = nI c := by decide +kernel
theorem sp_charW {q : Nat} (hq : q < 224) : Rn sc (d + 3) 308 0 [some (.ref 1005), some (.int (nI q))] [] (K0, I, J, R1 T) Q = Q (some (.int (nI (wch q)))) (K0, I, J, R1 T) := by
  have h0 : ¬ 224 ≤ q := by omega
  have h1 := i2c_all (wch q) (by have := wch_lt q hq; omega)
  simp (disch := first | assumption | omega | decide) only [x308w_0, x308w_1, x308w_2, x308w_3, x308w_4, x308w_5, x308w_6, x308w_7, x308w_8, x308w_9, x308w_10, x312w_0, x312w_1, x312w_2, x312w_3, x312w_4, x312w_5, x312w_6, x312w_7, x312w_8, x314w_0, x314w_1, x314w_2, x314w_3, x314w_4, x314w_5, x314w_6, x314w_7, x314w_8, x314w_9, x314w_10, x313_0, x313_1, x313_2, x313_3, x313_4, x313_5, x318_0, x318_1, x318_2, x318_3, x318_4, x318_6, x318_7, x318_10, x318_11, ↓reduceIte, Option.toList, List.nil_append, List.cons_append, nI_add, pk_mul, n_and, n_or, n_xor, nI_leI, nI_ltI, nI_eq, n_z, uI_s, uI_n, bI_n0, bI_n1, bT, bF, if_true, if_false, not_true, not_false_eq_true, pk_div, pk_rem, Nat.reduceEqDiff, Nat.reduceLeDiff, Nat.reduceLT, Nat.reduceAdd, Nat.reduceMul, Nat.reduceSub, Nat.not_lt_zero, Nat.zero_le, reduceCtorEq, ite_self, n_rem, and_self, and_true, true_and, and_false, false_and, show (1 : Int32) = nI 1 from rfl, hq, ch_all, List.append_nil]
theorem sp_idx {c : Nat} (hc : c < 256) : Rn sc (d + 3) 309 0 [some (.ref 1006), some (.int (nI c))] [] (K0, I, J, R1 T) Q = Q (some (.int (if fi (fun j => decide (sch j = c)) 11 < 11 then nI (fi (fun j => decide (sch j = c)) 11) else -1))) (K0, I, J, R1 T) := by
  have loop : ∀ (t j : Nat) (Q : Option Value → Mm → Prop), j + t = 11 → (∀ i, i < j → ¬ sch i = c) → Rn sc d 317 5 [some (.ref 1008), some (.int (nI c)), some (.int (nI 0)), some (.int (nI 11)), some (.int ((nI c).toInt8.toInt32)), some (.int (nI j))] [] (K0, I, J, R1 T) Q = Q (some (.int (if fi (fun j => decide (sch j = c)) 11 < 11 then nI (fi (fun j => decide (sch j = c)) 11) else -1))) (K0, I, J, R1 T) := by
    intro t
    induction t with
    | zero =>
      intro j Q hj hn
      have e : fi (fun j => decide (sch j = c)) 11 = 11 := fi_n (fun i hi => decide_eq_false (hn i (by omega)))
      have lj : 11 ≤ j := by omega
      rw [e, if_neg (Nat.lt_irrefl 11), x317s_5]
      simp (disch := first | assumption | omega | decide) only [x317s_6, x317s_7, x317s_8, x317s_9, x317s_10, x317s_11, x317s_12, x317s_13, x317s_14, x317s_15, x317s_16, x317s_17, x317s_18, ↓reduceIte, Option.toList, List.nil_append, List.cons_append, nI_add, pk_mul, n_and, n_or, n_xor, nI_leI, nI_ltI, nI_eq, n_z, uI_s, uI_n, bI_n0, bI_n1, bT, bF, if_true, if_false, not_true, not_false_eq_true, pk_div, pk_rem, Nat.reduceEqDiff, Nat.reduceLeDiff, Nat.reduceLT, Nat.reduceAdd, Nat.reduceMul, Nat.reduceSub, Nat.not_lt_zero, Nat.zero_le, reduceCtorEq, ite_self, n_rem, and_self, and_true, true_and, and_false, false_and, lj]
    | succ t ih =>
      intro j Q hj hn
      have lj : ¬ 11 ≤ j := by omega
      have ix := ix_all j (by omega) c hc
      by_cases cj : sch j = c
      · have e : fi (fun j => decide (sch j = c)) 11 = j := fi_u (by omega) (decide_eq_true cj) (fun i hi => decide_eq_false (hn i hi))
        have c2 := ix.mpr cj
        rw [e, if_pos (by omega), x317s_5]
        simp (disch := first | assumption | omega | decide) only [x317s_6, x317s_7, x317s_8, x317s_9, x317s_10, x317s_11, x317s_12, x317s_13, x317s_14, x317s_15, x317s_16, x317s_17, x317s_18, ↓reduceIte, Option.toList, List.nil_append, List.cons_append, nI_add, pk_mul, n_and, n_or, n_xor, nI_leI, nI_ltI, nI_eq, n_z, uI_s, uI_n, bI_n0, bI_n1, bT, bF, if_true, if_false, not_true, not_false_eq_true, pk_div, pk_rem, Nat.reduceEqDiff, Nat.reduceLeDiff, Nat.reduceLT, Nat.reduceAdd, Nat.reduceMul, Nat.reduceSub, Nat.not_lt_zero, Nat.zero_le, reduceCtorEq, ite_self, n_rem, and_self, and_true, true_and, and_false, false_and, lj, c2]
      · have c2 : ¬ (roTB.getD 1 []).getD j (nI 0) = (nI c).toInt8.toInt32 := fun h => cj (ix.mp h)
        rw [← ih (j + 1) Q (by omega) (fun i hi => by
          by_cases e : i = j
          · rw [e]; exact cj
          · exact hn i (by omega)), x317s_5]
        simp (disch := first | assumption | omega | decide) only [x317s_6, x317s_7, x317s_8, x317s_9, x317s_10, x317s_11, x317s_12, x317s_13, x317s_14, x317s_15, x317s_16, x317s_17, x317s_18, ↓reduceIte, Option.toList, List.nil_append, List.cons_append, nI_add, pk_mul, n_and, n_or, n_xor, nI_leI, nI_ltI, nI_eq, n_z, uI_s, uI_n, bI_n0, bI_n1, bT, bF, if_true, if_false, not_true, not_false_eq_true, pk_div, pk_rem, Nat.reduceEqDiff, Nat.reduceLeDiff, Nat.reduceLT, Nat.reduceAdd, Nat.reduceMul, Nat.reduceSub, Nat.not_lt_zero, Nat.zero_le, reduceCtorEq, ite_self, n_rem, and_self, and_true, true_and, and_false, false_and, lj, c2]
  have h1 : ¬ 255 < c := by omega
  have l0 := fun Q => loop 11 0 Q rfl (fun i hi => by omega)
  simp (disch := first | assumption | omega | decide) only [x309s_0, x309s_1, x309s_2, x309s_3, x309s_4, x310s_0, x310s_1, x310s_2, x310s_3, x310s_4, x310s_5, x310s_6, x310s_7, x310s_8, x310s_9, x310s_10, x310s_11, x310s_12, x310s_13, x310s_14, x310s_15, x310s_16, x310s_18, x312s_0, x312s_1, x312s_2, x312s_3, x312s_4, x312s_5, x312s_6, x312s_7, x312s_8, x307s_0, x307s_1, x307s_2, x307s_3, x307s_4, x307s_5, x307s_6, x311s_0, x311s_1, x311s_2, x311s_3, x311s_4, x311s_5, x311s_6, x316s_0, x316s_1, x316s_2, x316s_3, x316s_4, x316s_5, x316s_6, x316s_7, x316s_8, x316s_9, x316s_10, x316s_11, x316s_12, x316s_13, x316s_14, x316s_15, x316s_16, x316s_17, x316s_18, x316s_19, x316s_20, x316s_21, x316s_22, x316s_23, x316s_24, x315_0, x315_1, x315_2, x315_3, x315_4, x315_5, x315_6, x315_7, x315_8, x317s_0, x317s_1, x317s_2, x317s_3, x317s_4, ↓reduceIte, Option.toList, List.nil_append, List.cons_append, nI_add, pk_mul, n_and, n_or, n_xor, nI_leI, nI_ltI, nI_eq, n_z, uI_s, uI_n, bI_n0, bI_n1, bT, bF, if_true, if_false, not_true, not_false_eq_true, pk_div, pk_rem, Nat.reduceEqDiff, Nat.reduceLeDiff, Nat.reduceLT, Nat.reduceAdd, Nat.reduceMul, Nat.reduceSub, Nat.not_lt_zero, Nat.zero_le, reduceCtorEq, ite_self, n_rem, and_self, and_true, true_and, and_false, false_and, show (1 : Int32) = nI 1 from rfl, h1, List.append_nil, n_shr, Nat.pow_zero, Nat.div_one, l0]
theorem sp_isLetter {c : Nat} (hc : c < 256) : Rn sc d 52 0 [some (.int (nI c))] [] (K0, I, J, R1 T) Q = Q (some (.int (bI (isL c = true)))) (K0, I, J, R1 T) := by
  by_cases c1 : c < 97 <;> by_cases c2 : c ≤ 122 <;> by_cases c3 : c < 65 <;> by_cases c4 : 90 < c <;>
  first
    | (exfalso; omega)
    | (have e : isL c = true := decide_eq_true (by omega)
       rw [bI_t e]
       simp (disch := first | assumption | omega | decide) only [x52_0, x52_1, x52_2, x52_3, x52_4, x52_5, x52_6, x52_7, x52_8, x52_9, x52_10, x52_11, x52_12, x52_13, x52_14, x52_15, ↓reduceIte, Option.toList, List.nil_append, List.cons_append, nI_add, pk_mul, n_and, n_or, n_xor, nI_leI, nI_ltI, nI_eq, n_z, uI_s, uI_n, bI_n0, bI_n1, bT, bF, if_true, if_false, not_true, not_false_eq_true, pk_div, pk_rem, Nat.reduceEqDiff, Nat.reduceLeDiff, Nat.reduceLT, Nat.reduceAdd, Nat.reduceMul, Nat.reduceSub, Nat.not_lt_zero, Nat.zero_le, reduceCtorEq, ite_self, n_rem, and_self, and_true, true_and, and_false, false_and, c1, c2, c3, c4])
    | (have e : ¬ isL c = true := fun h => absurd (of_decide_eq_true h) (by omega)
       rw [bI_f e]
       simp (disch := first | assumption | omega | decide) only [x52_0, x52_1, x52_2, x52_3, x52_4, x52_5, x52_6, x52_7, x52_8, x52_9, x52_10, x52_11, x52_12, x52_13, x52_14, x52_15, ↓reduceIte, Option.toList, List.nil_append, List.cons_append, nI_add, pk_mul, n_and, n_or, n_xor, nI_leI, nI_ltI, nI_eq, n_z, uI_s, uI_n, bI_n0, bI_n1, bT, bF, if_true, if_false, not_true, not_false_eq_true, pk_div, pk_rem, Nat.reduceEqDiff, Nat.reduceLeDiff, Nat.reduceLT, Nat.reduceAdd, Nat.reduceMul, Nat.reduceSub, Nat.not_lt_zero, Nat.zero_le, reduceCtorEq, ite_self, n_rem, and_self, and_true, true_and, and_false, false_and, c1, c2, c3, c4])
theorem sp_isDigit {c : Nat} (hc : c < 256) : Rn sc d 53 0 [some (.int (nI c))] [] (K0, I, J, R1 T) Q = Q (some (.int (bI (isD c = true)))) (K0, I, J, R1 T) := by
  by_cases c1 : c < 48 <;> by_cases c2 : 57 < c <;>
  first
    | (exfalso; omega)
    | (have e : isD c = true := decide_eq_true (by omega)
       rw [bI_t e]
       simp (disch := first | assumption | omega | decide) only [x53_0, x53_1, x53_2, x53_3, x53_4, x53_5, x53_6, x53_7, x53_8, x53_9, ↓reduceIte, Option.toList, List.nil_append, List.cons_append, nI_add, pk_mul, n_and, n_or, n_xor, nI_leI, nI_ltI, nI_eq, n_z, uI_s, uI_n, bI_n0, bI_n1, bT, bF, if_true, if_false, not_true, not_false_eq_true, pk_div, pk_rem, Nat.reduceEqDiff, Nat.reduceLeDiff, Nat.reduceLT, Nat.reduceAdd, Nat.reduceMul, Nat.reduceSub, Nat.not_lt_zero, Nat.zero_le, reduceCtorEq, ite_self, n_rem, and_self, and_true, true_and, and_false, false_and, c1, c2])
    | (have e : ¬ isD c = true := fun h => absurd (of_decide_eq_true h) (by omega)
       rw [bI_f e]
       simp (disch := first | assumption | omega | decide) only [x53_0, x53_1, x53_2, x53_3, x53_4, x53_5, x53_6, x53_7, x53_8, x53_9, ↓reduceIte, Option.toList, List.nil_append, List.cons_append, nI_add, pk_mul, n_and, n_or, n_xor, nI_leI, nI_ltI, nI_eq, n_z, uI_s, uI_n, bI_n0, bI_n1, bT, bF, if_true, if_false, not_true, not_false_eq_true, pk_div, pk_rem, Nat.reduceEqDiff, Nat.reduceLeDiff, Nat.reduceLT, Nat.reduceAdd, Nat.reduceMul, Nat.reduceSub, Nat.not_lt_zero, Nat.zero_le, reduceCtorEq, ite_self, n_rem, and_self, and_true, true_and, and_false, false_and, c1, c2])
end Strs
