/-! what the two sides hold of a text, and what its laws say -/
def OkE (nm : Nat → Int32) (kp : Int32 → Int32) : Prop := (∀ w, bd (nm w)) ∧ ∀ x, bd (kp x)
def LawN (M : Nat → Nat → Int32) (t L n : Nat) (W : Nat → Nat) : Prop := M (50 + 5 * t) L = -1 ∧ ∀ k, k < n → W k ≠ L
def LawY (M : Nat → Nat → Int32) (t L n : Nat) (W : Nat → Nat) : Prop := ∃ (k i e p q : Nat) (code mo mv : Nat → Nat) (den : (Nat → Int32) → (Int32 → Int32) → Int32), k < n ∧ W k = L ∧ (∀ j, j < k → W j ≠ L) ∧ i ≤ e ∧ e ≤ 300 ∧ M (50 + 5 * t) L = nI i ∧ M (51 + 5 * t) L = nI e ∧ (∀ j, j < e → M (48 + 5 * t) j = nI (code j) ∧ code j < 2 ^ 20) ∧ M 92 (681 * t + 1 + 3 * k + 1) = nI p ∧ M 92 (681 * t + 1 + 3 * k + 2) = nI q ∧ p ≤ q ∧ q ≤ 300 ∧ (∀ j, j < q → M 92 (681 * t + 73 + 2 * j) = nI (mo j) ∧ M 92 (681 * t + 73 + 2 * j + 1) = nI (mv j) ∧ mo j < 2 ^ 20) ∧ (∀ nm kp, OkE nm kp → ∃ s, CRn code nm kp e s i [] e [den nm kp]) ∧ (∀ nm kp, OkE nm kp → MRn mo mv L nm kp (q - p) p [] [] [den nm kp] [])
def TXp (M : Nat → Nat → Int32) (t : Nat) : Prop := ∃ (n : Nat) (W F S : Nat → Nat), n ≤ 24 ∧ M (47 + 5 * t) 3 = nI n ∧ M 92 (681 * t) = nI n ∧ (∀ k, k < n → W k ≤ 7 ∧ F k < 1024 ∧ S k < 1024 ∧ M (49 + 5 * t) k = nI (W k + F k * 64 + S k * 65536) ∧ M 92 (681 * t + 1 + 3 * k) = nI (W k) ∧ (2 ≤ W k → M 92 (681 * t + 1 + 3 * k + 1) = nI (F k)) ∧ (2 ≤ W k → W k ≤ 6 → M 92 (681 * t + 1 + 3 * k + 2) = nI (S k)) ∧ (W k = 7 → F k ≤ 60)) ∧ ∀ L, L < 2 → LawN M t L n W ∨ LawY M t L n W
theorem txI_g {I : Nat → Nat → Int32} {c k : Nat} (h : (46 ≤ c ∧ c ≤ 66) ∨ c = 92) : txI I c k = I c k := if_pos h
theorem pc_8 : ∀ n, n < 256 → pcN n ≤ 8 := by decide +kernel
theorem bd_n {n : Nat} (h : n ≤ 1000000) : bd (nI n) := by
  unfold bd
  rw [nI_toInt (by omega)]
  omega
theorem bd_s {n m : Nat} (h : n ≤ 1000) (h2 : m ≤ 1000) : bd (nI n - nI m) := by
  unfold bd
  rw [pk_sub_toInt (by omega) (by omega)]
  omega
theorem ok_A {A : Nat → Nat} {h r : Nat} (w : Wf A) (hh : h < 8) (hr : r < A 1) : OkE (nmA A h r) (kpA A) := by
  have w1 : A 1 ≤ 4 := w.1.2.1
  have l2 : kpr A r < 256 := kpr_lt
  have l1 : bes A h &&& kpr A r < 256 := Nat.and_lt_two_pow (n := 8) _ kpr_lt
  obtain ⟨v1, v2, v3, v4, v5, v6, v7⟩ := w.2.1
  refine ⟨fun x => ?_, fun x => ?_⟩
  · unfold nmA
    split
    · exact bd_n (by have : A 8 ≤ 9999 := w.1.2.2.2.2.2.2.2.2.1; omega)
    · split
      · exact bd_n (by have := v4 r (by omega); omega)
      · split
        · exact bd_n (by omega)
        · split
          · exact bd_n (by omega)
          · split
            · exact bd_n (by have := v5 r (by omega); omega)
            · split
              · exact bd_n (by have := pc_8 _ l1; omega)
              · split
                · exact bd_s (by have := v3 h hh; omega) (by have := pc_8 _ (Nat.lt_trans (keep_lt w hh) (by decide)); omega)
                · split
                  · exact bd_n (by have := pc_8 _ l2; omega)
                  · exact bd_n (by have := v2 h hh; omega)
  · by_cases hx : inR x 8
    · obtain ⟨k, hk, rfl⟩ := hx
      rw [kpA_t hk]
      exact bd_n (by have := pc_8 _ (Nat.lt_trans (keep_lt w hk) (by decide)); omega)
    · rw [kpA_f hx]
      exact bd_n (by omega)
theorem cl_nat (v : Int32) : ∃ p, p ≤ 99 ∧ clI (nI 0) v = nI p := by
  unfold clI
  rcases n_cases v with h | ⟨n, hn, rfl⟩
  · have h1 : ¬ nI 99 < v := Int32.not_lt.mpr (Int32.le_of_lt (Int32.lt_trans h (by decide)))
    rw [if_neg h1, if_neg (Int32.not_lt.mpr (Int32.le_of_lt (show v < nI 0 from h)))]
    exact ⟨0, by omega, rfl⟩
  · by_cases h1 : nI 99 < nI n
    · rw [if_pos h1, if_pos (by decide)]
      exact ⟨99, by omega, rfl⟩
    · rw [if_neg h1]
      rw [nI_ltI (by omega) hn] at h1
      by_cases h2 : nI 0 < nI n
      · rw [if_pos h2]
        exact ⟨n, by omega, rfl⟩
      · rw [if_neg h2]
        exact ⟨0, by omega, rfl⟩
/-- the law as the class is given it -/
def LwC (tx : Nat) : Value := if tx < 4 then .ref (47 + 5 * tx) else .null
def BelC (M : Nat → Nat → Int32) (tx : Nat) (f : (Nat → Nat) → Nat → Nat → Int32) : Prop := ∀ sc d J T A I h r, Wf A → h < 8 → r < A 1 → txI I = M →
  (Twn I 1 2 3 4 5 6 7 8 9 A → ∃ I', (∀ c k, c ≠ 69 ∧ c ≠ 70 → I' c k = I c k) ∧ ∀ Q, Rn sc (d + 4) 13 0 [some (.ref 69), some (LwC tx), some (.ref 1), some (.int (nI h)), some (.int (nI r)), none] [] (K0, I, J, R1 T) Q = Q (some (.int (f A h r))) (K0, I', J, R1 T)) ∧
  (Twn I 19 20 21 22 23 24 25 26 27 A → ∃ I', (∀ c k, c ≠ 69 ∧ c ≠ 70 → I' c k = I c k) ∧ ∀ Q, Rn sc (d + 4) 13 0 [some (.ref 69), some (LwC tx), some (.ref 19), some (.int (nI h)), some (.int (nI r)), none] [] (K0, I, J, R1 T) Q = Q (some (.int (f A h r))) (K0, I', J, R1 T))
def BelM (M : Nat → Nat → Int32) (tx : Nat) (f : (Nat → Nat) → Nat → Nat → Int32) : Prop := ∀ sc d J T A I h r, Wf A → h < 8 → r < A 1 → txI I = M → AtM I 90 A → A 3 = tx → ∃ I' J', (∀ c k, c ≠ 95 ∧ c ≠ 97 → I' c k = I c k) ∧ ∀ Q, Rn sc (d + 5) 230 0 [some (.ref 89), some (.int (nI h)), some (.int (nI r))] [] (K0, I, J, R1 T) Q = Q (some (.int (f A h r))) (K0, I', J', R1 T)
def RntC (M : Nat → Nat → Int32) (tx : Nat) (g : (Nat → Nat) → Nat → Nat → Nat) : Prop := ∀ sc d J T A I h r, Wf A → h < 8 → r < A 1 → txI I = M →
  (Twn I 1 2 3 4 5 6 7 8 9 A → ∃ I', (∀ c k, c ≠ 69 ∧ c ≠ 70 → I' c k = I c k) ∧ ∀ Q, Rn sc (d + 4) 14 0 [some (.ref 69), some (LwC tx), some (.ref 1), some (.int (nI h)), some (.int (nI r)), none] [] (K0, I, J, R1 T) Q = Q (some (.int (nI (g A h r)))) (K0, I', J, R1 T)) ∧
  (Twn I 19 20 21 22 23 24 25 26 27 A → ∃ I', (∀ c k, c ≠ 69 ∧ c ≠ 70 → I' c k = I c k) ∧ ∀ Q, Rn sc (d + 4) 14 0 [some (.ref 69), some (LwC tx), some (.ref 19), some (.int (nI h)), some (.int (nI r)), none] [] (K0, I, J, R1 T) Q = Q (some (.int (nI (g A h r)))) (K0, I', J, R1 T))
def RntM (M : Nat → Nat → Int32) (tx : Nat) (g : (Nat → Nat) → Nat → Nat → Nat) : Prop := ∀ sc d J T A I h r, Wf A → h < 8 → r < A 1 → txI I = M → AtM I 90 A → ∃ I' J', (∀ c k, c ≠ 95 ∧ c ≠ 97 → I' c k = I c k) ∧ ∀ Q, Rn sc (d + 5) 231 0 [some (.ref 89), some (.int (nI tx)), some (.int (nI h)), some (.int (nI r))] [] (K0, I, J, R1 T) Q = Q (some (.int (nI (g A h r)))) (K0, I', J', R1 T)
section Texts
variable {sc : Sc} {d : Nat} {I : Nat → Nat → Int32} {J : Nat → Nat → Int64} {T : Option Nat} {A : Nat → Nat}
theorem sp_nameM {h r : Nat} (w : Wf A) (hh : h < 8) (hr : r < A 1) (m : AtM I 90 A) : ∃ I', (∀ c k, c ≠ 95 → I' c k = I c k) ∧ (∀ k, k < 6 → I' 95 k = nmA A h r (wk k)) ∧ ∀ Q, Rn sc (d + 4) 229 0 [some (.ref 89), some (.int (nI h)), some (.int (nI r))] [] (K0, I, J, R1 T) Q = Q none (K0, I', J, R1 T) := by
  have m' : ∀ k, k < 1799 → I 90 k = nI (A k) := m
  have w1 : A 1 ≤ 4 := w.1.2.1
  have l1 : bes A h &&& kpr A r < 256 := Nat.and_lt_two_pow (n := 8) _ kpr_lt
  have ms : ∀ I' : Nat → Nat → Int32, (∀ k, I' 90 k = I 90 k) → AtM I' 90 A := fun I' h => AtM_c m h
  apply Exists.intro
  refine ⟨?f, ?n, fun Q => ?q⟩
  case q =>
    have b1 := fun Q => sp_besM (Q := Q) (sc := sc) (d := d + 3) (I := uI (uI (uI (uI (uI I 95 0 (nI (A 8))) 95 1 (nI h)) 95 2 (nI r)) 95 3 (nI (A (64 + r)))) 95 4 (nI (A (28 + r)))) (J := J) (T := T) (u2 := none) (u3 := none) hh w (ms _ (fun k => by simp (disch := omega) only [uI_n]))
    have b2 := fun Q => sp_kpM (Q := Q) (sc := sc) (d := d + 2) (I := uI (uI (uI (uI (uI I 95 0 (nI (A 8))) 95 1 (nI h)) 95 2 (nI r)) 95 3 (nI (A (64 + r)))) 95 4 (nI (A (28 + r)))) (J := J) (T := T) (r := r) (u2 := none) (u3 := none) (by omega) w (ms _ (fun k => by simp (disch := omega) only [uI_n]))
    simp (disch := first | assumption | omega | decide) only [x229_0, x229_1, x229_2, x229_3, x229_4, x229_5, x229_6, x229_7, x229_8, x229_9, x229_10, x229_11, x229_12, x229_13, x229_14, x229_15, x229_16, x229_17, x229_18, x229_19, x229_20, x229_21, x229_22, x229_23, x229_24, x229_25, x229_26, x229_27, x229_28, x229_29, x229_30, x229_31, x229_32, x229_33, x229_34, x229_35, x229_36, x229_37, x229_38, x229_39, x229_40, x229_41, x229_42, x229_43, x229_44, x229_45, x229_46, x229_47, x229_48, x229_49, x229_50, ↓reduceIte, Option.toList, List.nil_append, List.cons_append, nI_add, pk_mul, n_and, n_or, n_xor, nI_leI, nI_ltI, nI_eq, n_z, uI_s, uI_n, bI_n0, bI_n1, bT, bF, if_true, if_false, not_true, not_false_eq_true, pk_div, pk_rem, Nat.reduceEqDiff, Nat.reduceLeDiff, Nat.reduceLT, Nat.reduceAdd, Nat.reduceMul, Nat.reduceSub, Nat.not_lt_zero, Nat.zero_le, reduceCtorEq, ite_self, n_rem, and_self, and_true, true_and, and_false, false_and, m', b1, b2, sp_bits]
    rfl
  case f =>
    intro c k hc
    simp (disch := first | assumption | omega | decide) only [uI_n]
  case n =>
    intro k hk
    have hk' : k = 0 ∨ k = 1 ∨ k = 2 ∨ k = 3 ∨ k = 4 ∨ k = 5 := by omega
    rcases hk' with rfl | rfl | rfl | rfl | rfl | rfl
    · simp (disch := first | assumption | omega | decide) only [uI_n, uI_s]
      rfl
    · simp (disch := first | assumption | omega | decide) only [uI_n, uI_s]
      rfl
    · simp (disch := first | assumption | omega | decide) only [uI_n, uI_s]
      rfl
    · simp (disch := first | assumption | omega | decide) only [uI_n, uI_s]
      rfl
    · simp (disch := first | assumption | omega | decide) only [uI_n, uI_s]
      rfl
    · simp (disch := first | assumption | omega | decide) only [uI_n, uI_s]
      rfl
theorem sp_belA {h r : Nat} (w : Wf A) (hh : h < 8) (hr : r < A 1) (m : AtM I 90 A) : ∃ I', (∀ c k, c ≠ 95 → I' c k = I c k) ∧ (∀ k, okN 0 k → I' 95 k = nmA A h r (wk k)) ∧ ∀ Q, Rn sc (d + 5) 230 0 [some (.ref 89), some (.int (nI h)), some (.int (nI r))] [] (K0, I, J, R1 T) Q = Rn sc (d + 4) 228 0 [some (.ref 89), some (.int (nI (A 3))), some (.int (nI 0)), some (.int (nI 1)), some (.int (-99)), none] [] (K0, I', J, R1 T) (fun vv mm => Rn sc (d + 5) 230 31 [some (.ref 89), some (.int (nI h)), some (.int (nI r))] (vv.toList ++ []) mm Q) := by
  obtain ⟨I1, f1, n1, q1⟩ := sp_nameM (sc := sc) (d := d) (J := J) (T := T) w hh hr m
  have m1 : ∀ k, k < 1799 → I1 90 k = nI (A k) := fun k hk => (f1 _ _ (by omega)).trans (m k hk)
  have lk := keep_lt w hh
  refine ⟨uI I1 95 6 (nI (A (32 + h)) - nI (pcN (A (12 + h)))), fun c k hc => (uI_n (by omega)).trans (f1 c k hc), fun k hk => ?_, fun Q => ?_⟩
  · have hk' : k < 6 ∨ k = 6 := by unfold okN at hk; omega
    rcases hk' with hk | rfl
    · rw [uI_n (by omega)]
      exact n1 k hk
    · rw [uI_s]
      rfl
  · simp (disch := first | assumption | omega | decide) only [x230_0, x230_1, x230_2, x230_3, x230_4, x230_5, x230_6, x230_7, x230_8, x230_9, x230_10, x230_11, x230_12, x230_13, x230_14, x230_15, x230_16, x230_17, x230_18, x230_19, x230_20, x230_21, x230_22, x230_23, x230_24, x230_25, x230_26, x230_27, x230_28, x230_29, x230_30, ↓reduceIte, Option.toList, List.nil_append, List.cons_append, nI_add, pk_mul, n_and, n_or, n_xor, nI_leI, nI_ltI, nI_eq, n_z, uI_s, uI_n, bI_n0, bI_n1, bT, bF, if_true, if_false, not_true, not_false_eq_true, pk_div, pk_rem, Nat.reduceEqDiff, Nat.reduceLeDiff, Nat.reduceLT, Nat.reduceAdd, Nat.reduceMul, Nat.reduceSub, Nat.not_lt_zero, Nat.zero_le, reduceCtorEq, ite_self, n_rem, and_self, and_true, true_and, and_false, false_and, q1, m1, sp_bits]
theorem sp_rntA {h r tx : Nat} (w : Wf A) (hh : h < 8) (hr : r < A 1) (m : AtM I 90 A) : ∃ I', (∀ c k, c ≠ 95 → I' c k = I c k) ∧ (∀ k, okN 1 k → I' 95 k = nmA A h r (wk k)) ∧ ∀ Q, Rn sc (d + 5) 231 0 [some (.ref 89), some (.int (nI tx)), some (.int (nI h)), some (.int (nI r))] [] (K0, I, J, R1 T) Q = Rn sc (d + 4) 228 0 [some (.ref 89), some (.int (nI tx)), some (.int (nI 1)), some (.int (nI (pcN (kpr A r) * (1 + A (64 + r))))), some (.int (nI 0)), none] [] (K0, I', J, R1 T) (fun vv mm => Rn sc (d + 5) 231 38 [some (.ref 89), some (.int (nI tx)), some (.int (nI h)), some (.int (nI r))] (vv.toList ++ []) mm Q) := by
  obtain ⟨I1, f1, n1, q1⟩ := sp_nameM (sc := sc) (d := d) (J := J) (T := T) w hh hr m
  have w1 : A 1 ≤ 4 := w.1.2.1
  have m1 : ∀ k, k < 1799 → I1 90 k = nI (A k) := fun k hk => (f1 _ _ (by omega)).trans (m k hk)
  have l2 : kpr A r < 256 := kpr_lt
  have b2 := fun Q => sp_kpM (Q := Q) (sc := sc) (d := d + 3) (I := I1) (J := J) (T := T) (r := r) (u2 := none) (u3 := none) (by omega) w m1
  have e3 : I1 95 3 = nI (A (64 + r)) := n1 3 (by omega)
  refine ⟨uI (uI I1 95 7 (nI (pcN (kpr A r)))) 95 8 (nI (A (20 + h))), fun c k hc => by rw [uI_n (by omega), uI_n (by omega)]; exact f1 c k hc, fun k hk => ?_, fun Q => ?_⟩
  · have hk' : k < 6 ∨ k = 7 ∨ k = 8 := by unfold okN at hk; omega
    rcases hk' with hk | rfl | rfl
    · rw [uI_n (by omega), uI_n (by omega)]
      exact n1 k hk
    · rw [uI_n (by omega), uI_s]
      rfl
    · rw [uI_s]
      rfl
  · simp (disch := first | assumption | omega | decide) only [x231_0, x231_1, x231_2, x231_3, x231_4, x231_5, x231_6, x231_7, x231_8, x231_9, x231_10, x231_11, x231_12, x231_13, x231_14, x231_15, x231_16, x231_17, x231_18, x231_19, x231_20, x231_21, x231_22, x231_23, x231_24, x231_25, x231_26, x231_27, x231_28, x231_29, x231_30, x231_31, x231_32, x231_33, x231_34, x231_35, x231_36, x231_37, ↓reduceIte, Option.toList, List.nil_append, List.cons_append, nI_add, pk_mul, n_and, n_or, n_xor, nI_leI, nI_ltI, nI_eq, n_z, uI_s, uI_n, bI_n0, bI_n1, bT, bF, if_true, if_false, not_true, not_false_eq_true, pk_div, pk_rem, Nat.reduceEqDiff, Nat.reduceLeDiff, Nat.reduceLT, Nat.reduceAdd, Nat.reduceMul, Nat.reduceSub, Nat.not_lt_zero, Nat.zero_le, reduceCtorEq, ite_self, n_rem, and_self, and_true, true_and, and_false, false_and, q1, m1, sp_bits, b2, e3]
/-- laws don't look at the book -/
def EqB (A A' : Nat → Nat) : Prop := ∀ k, k < 119 → k ≠ 11 → A' k = A k
def Ind {α : Type} (f : (Nat → Nat) → Nat → Nat → α) : Prop := ∀ A A' h r, A 0 ≤ 12 → h < 8 → r < 4 → EqB A A' → f A' h r = f A h r
theorem nm_ind {A A' : Nat → Nat} {h r : Nat} (w0 : A 0 ≤ 12) (hh : h < 8) (hr : r < 4) (e : EqB A A') : nmA A' h r = nmA A h r := by
  funext w
  unfold nmA
  rw [e 8 (by omega) (by omega), e (28 + r) (by omega) (by omega), e (64 + r) (by omega) (by omega), e (32 + h) (by omega) (by omega), e (12 + h) (by omega) (by omega), e (20 + h) (by omega) (by omega), bes_c (fun k hk => e k (by omega) (by omega)) w0, kpr_c (fun j hj => e (12 + j) (by omega) (by omega))]
theorem kp_ind {A A' : Nat → Nat} (e : EqB A A') : kpA A' = kpA A := by
  funext x
  by_cases hx : inR x 8
  · obtain ⟨k, hk, rfl⟩ := hx
    rw [kpA_t hk, kpA_t hk, e (12 + k) (by omega) (by omega)]
  · rw [kpA_f hx, kpA_f hx]
theorem den_ind {α : Type} (F : (Nat → Int32) → (Int32 → Int32) → α) : Ind (fun A h r => F (nmA A h r) (kpA A)) := by
  intro A A' h r w0 hh hr e
  show F (nmA A' h r) (kpA A') = F (nmA A h r) (kpA A)
  rw [nm_ind w0 hh hr e, kp_ind e]
theorem bel_ex3 {M : Nat → Nat → Int32} {tx : Nat} (h : tx = 4294967295 ∨ (tx < 4 ∧ TXp M tx)) : ∃ f, BelC M tx f ∧ BelM M tx f ∧ Ind f := by
  rcases h with rfl | ⟨ht, n, W, F, S, hn, e0, e1, hk, hL⟩
  · refine ⟨fun _ _ _ => nI 1, ?_, ?_, fun _ _ _ _ _ _ _ _ => rfl⟩
    · intro sc d J T A I h r w hh hr hM
      refine ⟨fun t => ⟨I, fun _ _ _ => rfl, fun Q => ?_⟩, fun t => ⟨I, fun _ _ _ => rfl, fun Q => ?_⟩⟩
      · rw [show LwC 4294967295 = .null from rfl]
        exact sp_bel0a
      · rw [show LwC 4294967295 = .null from rfl]
        exact sp_bel0b
    · intro sc d J T A I h r w hh hr hM m e3
      obtain ⟨I1, f1, n1, q1⟩ := sp_belA (sc := sc) (d := d) (J := J) (T := T) w hh hr m
      refine ⟨I1, J, fun c k hc => f1 c k hc.1, fun Q => ?_⟩
      rw [q1, e3, ← n_m1]
      simp (disch := first | assumption | omega | decide) only [sp_says0, x230_31, ↓reduceIte, Option.toList, List.nil_append, List.cons_append, nI_add, pk_mul, n_and, n_or, n_xor, nI_leI, nI_ltI, nI_eq, n_z, uI_s, uI_n, bI_n0, bI_n1, bT, bF, if_true, if_false, not_true, not_false_eq_true, pk_div, pk_rem, Nat.reduceEqDiff, Nat.reduceLeDiff, Nat.reduceLT, Nat.reduceAdd, Nat.reduceMul, Nat.reduceSub, Nat.not_lt_zero, Nat.zero_le, reduceCtorEq, ite_self, n_rem, and_self, and_true, true_and, and_false, false_and]
  · rcases hL 0 (by decide) with ⟨h1, h2⟩ | ⟨k, i, e, p, q, code, mo, mv, den, k1, k2, k3, i1, i2, i3, i4, i5, p1, p2, p3, p4, p5, r1, r2⟩
    · refine ⟨fun _ _ _ => nI 1, ?_, ?_, fun _ _ _ _ _ _ _ _ => rfl⟩
      · intro sc d J T A I h r w hh hr hM
        have g1 : I (50 + 5 * tx) 0 = -1 := by rw [← txI_g (I := I) (by omega), hM]; exact h1
        refine ⟨fun t => ⟨I, fun _ _ _ => rfl, fun Q => ?_⟩, fun t => ⟨I, fun _ _ _ => rfl, fun Q => ?_⟩⟩
        · rw [show LwC tx = .ref (47 + 5 * tx) from if_pos ht]
          exact sp_belNa ht g1
        · rw [show LwC tx = .ref (47 + 5 * tx) from if_pos ht]
          exact sp_belNb ht g1
      · intro sc d J T A I h r w hh hr hM m e3
        obtain ⟨I1, f1, n1, q1⟩ := sp_belA (sc := sc) (d := d) (J := J) (T := T) w hh hr m
        have g : ∀ k, I1 92 k = M 92 k := fun k => by rw [f1 _ _ (by omega), ← txI_g (I := I) (by omega), hM]
        refine ⟨I1, J, fun c k hc => f1 c k hc.1, fun Q => ?_⟩
        rw [q1, e3, sp_saysN ht (by decide) hn ((g _).trans e1) (fun k hk' => ⟨(g _).trans (hk k hk').2.2.2.2.1, (hk k hk').1⟩) h2]
        simp (disch := first | assumption | omega | decide) only [x230_31, ↓reduceIte, Option.toList, List.nil_append, List.cons_append, nI_add, pk_mul, n_and, n_or, n_xor, nI_leI, nI_ltI, nI_eq, n_z, uI_s, uI_n, bI_n0, bI_n1, bT, bF, if_true, if_false, not_true, not_false_eq_true, pk_div, pk_rem, Nat.reduceEqDiff, Nat.reduceLeDiff, Nat.reduceLT, Nat.reduceAdd, Nat.reduceMul, Nat.reduceSub, Nat.not_lt_zero, Nat.zero_le, reduceCtorEq, ite_self, n_rem, and_self, and_true, true_and, and_false, false_and]
    · refine ⟨fun A h r => clI (-99) (den (nmA A h r) (kpA A)), ?_, ?_, den_ind (fun x y => clI (-99) (den x y))⟩
      · intro sc d J T A I h r w hh hr hM
        have g : ∀ c k, (46 ≤ c ∧ c ≤ 66) ∨ c = 92 → I c k = M c k := fun c k hc => by rw [← txI_g (I := I) hc, hM]
        obtain ⟨s, hs⟩ := r1 _ _ (ok_A w hh hr)
        rw [show LwC tx = .ref (47 + 5 * tx) from if_pos ht]
        exact ⟨fun t => sp_belYa ht w hh hr t i2 ((g _ _ (by omega)).trans i3) ((g _ _ (by omega)).trans i4) i1 (fun k hk => (g _ _ (by omega)).trans (i5 k hk).1) (fun k hk => (i5 k hk).2) hs, fun t => sp_belYb ht w hh hr t i2 ((g _ _ (by omega)).trans i3) ((g _ _ (by omega)).trans i4) i1 (fun k hk => (g _ _ (by omega)).trans (i5 k hk).1) (fun k hk => (i5 k hk).2) hs⟩
      · intro sc d J T A I h r w hh hr hM m e3
        obtain ⟨I1, f1, n1, q1⟩ := sp_belA (sc := sc) (d := d) (J := J) (T := T) w hh hr m
        have g : ∀ k, I1 92 k = M 92 k := fun k => by rw [f1 _ _ (by omega), ← txI_g (I := I) (by omega), hM]
        obtain ⟨I2, J2, f2, g2, q2⟩ := sp_saysY (sc := sc) (d := d) (T := T) (J := J) (u := none) (x := nI 1) (lo := -99) (by decide) w (AtM_c m (fun k => f1 _ _ (by omega))) ht (show 0 < 2 by decide) hn ((g _).trans e1) (fun k hk' => ⟨(g _).trans (hk k hk').2.2.2.2.1, (hk k hk').1⟩) k1 k2 k3 ((g _).trans p1) ((g _).trans p2) p3 p4 (fun j hj => ⟨(g _).trans (p5 j hj).1, (g _).trans (p5 j hj).2.1, (p5 j hj).2.2⟩) n1 (r2 _ _ (ok_A w hh hr))
        refine ⟨I2, J2, fun c k hc => (f2 c k hc.2).trans (f1 c k hc.1), fun Q => ?_⟩
        rw [q1, e3, q2]
        simp (disch := first | assumption | omega | decide) only [x230_31, ↓reduceIte, Option.toList, List.nil_append, List.cons_append, nI_add, pk_mul, n_and, n_or, n_xor, nI_leI, nI_ltI, nI_eq, n_z, uI_s, uI_n, bI_n0, bI_n1, bT, bF, if_true, if_false, not_true, not_false_eq_true, pk_div, pk_rem, Nat.reduceEqDiff, Nat.reduceLeDiff, Nat.reduceLT, Nat.reduceAdd, Nat.reduceMul, Nat.reduceSub, Nat.not_lt_zero, Nat.zero_le, reduceCtorEq, ite_self, n_rem, and_self, and_true, true_and, and_false, false_and]
theorem bel_ex {M : Nat → Nat → Int32} {tx : Nat} (h : tx = 4294967295 ∨ (tx < 4 ∧ TXp M tx)) : ∃ f, BelC M tx f ∧ BelM M tx f := by
  obtain ⟨f, a, b, c⟩ := bel_ex3 h
  exact ⟨f, a, b⟩
end Texts
