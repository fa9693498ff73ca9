/-! clauses: what they are, and the class's reading of them -/
abbrev Sg := List (Nat × Nat × Nat) × (Nat → Option (Nat × Nat × Nat × Nat × Nat)) × List Nat × List (Nat × Nat)
def hiF (W : Nat) : Nat := if W = 3 then 1 else if W = 4 then 4 else if W = 7 then 60 else 7
def loF (W : Nat) : Nat := if W = 7 then 1 else 0
def wdW (W : Nat) : Nat := if W = 2 then 16 else if W = 3 then 8 else if W = 4 then 17 else 18
def h2F (W : Nat) : Nat := if W = 3 then 999 else if W = 5 then 3 else if W = 6 then 3 else 7
def setL (f : Nat → Option (Nat × Nat × Nat × Nat × Nat)) (L : Nat) (v : Option (Nat × Nat × Nat × Nat × Nat)) : Nat → Option (Nat × Nat × Nat × Nat × Nat) := fun x => if x = L then v else f x
section ClF
variable (b : Nat → Nat) (n : Nat)
def bodyF (W p : Nat) : Sum (Nat × Nat) (Nat × Nat × Nat) := match rdN b n (loF W) (hiF W) p with
  | .inl e => .inl e
  | .inr (_, p1) => if W = 7 then .inr (tV b n p, 0, p1) else match xpt b n (wdW W) ([], []) p1 with
    | .inl e => .inl e
    | .inr (_, p2) => match rdN b n 0 (h2F W) p2 with
      | .inl e => .inl e
      | .inr (_, p3) => .inr (tV b n p, tV b n p2, p3)
def clF (σ : Sg) (p : Nat) : Sum (Nat × Nat) (Sg × Nat) :=
  if 7 < tK b n p then .inl (1, tS b n p) else if tK b n p ≤ 1 ∧ (σ.2.1 (tK b n p)).isSome = true then .inl (4, tS b n p) else if 24 ≤ σ.1.length then .inl (6, tS b n p)
  else if tK b n p ≤ 1 then match smr b n (lv1 b n (tK b n p) 8).1 (tX b n p) with
    | .inl e => .inl e
    | .inr (c, p1) => if tK b n p1 = 38 then .inr ((σ.1 ++ [(tK b n p, 0, 0)], setL σ.2.1 (tK b n p) (some (σ.1.length, σ.2.2.1.length, σ.2.2.1.length + c.1.length, σ.2.2.2.length, σ.2.2.2.length + c.2.length)), σ.2.2.1 ++ c.1, σ.2.2.2 ++ c.2), tX b n p1) else .inl (1, tS b n p1)
  else match bodyF b n (tK b n p) (tX b n p) with
    | .inl e => .inl e
    | .inr (F, S, p3) => if tK b n p3 = 38 then .inr ((σ.1 ++ [(tK b n p, F, S)], σ.2.1, σ.2.2), tX b n p3) else .inl (1, tS b n p3)
end ClF
def g3 (l : List (Nat × Nat × Nat)) (k : Nat) : Nat × Nat × Nat := l.getD k (0, 0, 0)
theorem g3_a {l r : List (Nat × Nat × Nat)} {j : Nat} (h : j < l.length) : g3 (l ++ r) j = g3 l j := by
  unfold g3
  rw [List.getD_eq_getElem?_getD, List.getD_eq_getElem?_getD, List.getElem?_append_left h]
theorem g3_e {l : List (Nat × Nat × Nat)} {x : Nat × Nat × Nat} : g3 (l ++ [x]) l.length = x := by
  unfold g3
  rw [List.getD_eq_getElem?_getD, List.getElem?_append_right (Nat.le_refl _), Nat.sub_self]
  rfl
def ClC (I : Nat → Nat → Int32) (t : Nat) (cl : List (Nat × Nat × Nat)) (lw : Nat → Option (Nat × Nat × Nat × Nat × Nat)) : Prop := I (47 + 5 * t) 3 = nI cl.length ∧ (∀ k, k < cl.length → I (49 + 5 * t) k = nI ((g3 cl k).1 + (g3 cl k).2.1 * 64 + (g3 cl k).2.2 * 65536)) ∧ ∀ L, L < 2 → (lw L = none → I (50 + 5 * t) L = -1) ∧ ∀ k i e p q, lw L = some (k, i, e, p, q) → i ≤ 300 ∧ I (50 + 5 * t) L = nI i ∧ I (51 + 5 * t) L = nI e
theorem ClC_c {I I' : Nat → Nat → Int32} {t : Nat} {cl : List (Nat × Nat × Nat)} {lw : Nat → Option (Nat × Nat × Nat × Nat × Nat)} (h : ClC I t cl lw) (e1 : I' (47 + 5 * t) 3 = I (47 + 5 * t) 3) (e2 : ∀ c k, c = 49 + 5 * t ∨ c = 50 + 5 * t ∨ c = 51 + 5 * t → I' c k = I c k) : ClC I' t cl lw := by
  obtain ⟨h1, h2, h3⟩ := h
  refine ⟨e1.trans h1, fun k hk => (e2 _ _ (by omega)).trans (h2 k hk), fun L hL => ⟨fun e => (e2 _ _ (by omega)).trans ((h3 L hL).1 e), fun k i e p q he => ?_⟩⟩
  obtain ⟨a1, a2, a3⟩ := (h3 L hL).2 k i e p q he
  exact ⟨a1, (e2 _ _ (by omega)).trans a2, (e2 _ _ (by omega)).trans a3⟩
theorem ClC_z {I I' : Nat → Nat → Int32} {t : Nat} {cl : List (Nat × Nat × Nat)} {lw : Nat → Option (Nat × Nat × Nat × Nat × Nat)} (ht : t < 4) (h : ClC I t cl lw) (f : FrZ t I I') : ClC I' t cl lw := ClC_c h (f _ _ (by omega) (by omega) (by omega)) (fun c k hc => f _ _ (by omega) (by omega) (by omega))
def FrW (t : Nat) (I I' : Nat → Nat → Int32) : Prop := ∀ c k, (c ≠ 67 ∨ k < 1 ∨ 8 < k) → (c < 47 + 5 * t ∨ 51 + 5 * t < c) → I' c k = I c k
theorem FrW_t {t : Nat} {I I' I'' : Nat → Nat → Int32} (h : FrW t I I') (h' : FrW t I' I'') : FrW t I I'' := fun c k a1 a2 => (h' c k a1 a2).trans (h c k a1 a2)
theorem FrW_z {t : Nat} {I I' : Nat → Nat → Int32} (h : FrZ t I I') : FrW t I I' := fun c k a1 a2 => h c k (by omega) (by omega) (by omega)
theorem FrW_r {t : Nat} {I : Nat → Nat → Int32} : FrW t I I := fun _ _ _ _ => rfl
section ClC
variable {sc : Sc} {d : Nat} {t : Nat} {b : Nat → Nat} {n : Nat} {I : Nat → Nat → Int32} {J : Nat → Nat → Int64} {T : Option Nat}
theorem sp_addC {m W F S : Nat} (ht : t < 4) (hm : I (47 + 5 * t) 3 = nI m) (h24 : m < 24) (hF : F ≤ 10000) (hS : S ≤ 10000) : ∀ Q, Rn sc d 90 0 [some (.ref (47 + 5 * t)), some (.int (nI W)), some (.int (nI F)), some (.int (nI S))] [] (K0, I, J, R1 T) Q = Q none (K0, uI (uI I (49 + 5 * t) m (nI (W + F * 64 + S * 65536))) (47 + 5 * t) 3 (nI (m + 1)), J, R1 T) := by
  intro Q
  have l3 : ¬ 24 ≤ m := by omega
  have e6 : nI F <<< (nI 6 &&& 31) = nI (F * 64) := n_shl (by omega) (by omega)
  have e16 : nI S <<< (nI 16 &&& 31) = nI (S * 65536) := n_shl (by omega) (by omega)
  simp (disch := first | assumption | omega | decide) only [x90_0r, x90_0n, x90_2, x90_3, x90_4r, x90_4n, x90_6r, x90_6n, x90_8, x90_9, x90_10, x90_11, x90_12, x90_13, x90_14, x90_15, x90_16, x90_18r, x90_18n, x90_19, x90_21, x90_22, x90_24, x90_1 (a := 47 + 5 * t) (kd_t ht) (by omega), x90_5 (a := 47 + 5 * t) (kd_t ht) (by omega), vr_2 ht, x90_7 (a := 47 + 5 * t) (kd_t ht) (by omega), x90_17 (a := 49 + 5 * t) (n := 24) (by omega) (kd_s ht), x90_20 (a := 47 + 5 * t) (kd_t ht) (by omega), x90_23 (a := 47 + 5 * t) (kd_t ht) (by omega), ↓reduceIte, Option.toList, List.nil_append, List.cons_append, nI_add, pk_mul, n_and, n_or, n_xor, nI_leI, nI_ltI, nI_eq, n_z, uI_s, uI_n, bI_n0, bI_n1, bT, bF, if_true, if_false, not_true, not_false_eq_true, pk_div, pk_rem, Nat.reduceEqDiff, Nat.reduceLeDiff, Nat.reduceLT, Nat.reduceAdd, Nat.reduceMul, Nat.reduceSub, Nat.not_lt_zero, Nat.zero_le, reduceCtorEq, ite_self, n_rem, and_self, and_true, true_and, and_false, false_and, hm, l3, e6, e16]
theorem sp_hasC {L : Nat} {x : Int32} (ht : t < 4) (hL : L < 2) (hx : I (50 + 5 * t) L = x) : ∀ Q, Rn sc d 87 0 [some (.ref (47 + 5 * t)), some (.int (nI L))] [] (K0, I, J, R1 T) Q = Q (some (.int (bI (¬ x = -1)))) (K0, I, J, R1 T) := by
  intro Q
  by_cases c : x = -1
  · rw [bI_f (fun q => q c)]
    simp (disch := first | assumption | omega | decide) only [x87_0r, x87_0n, x87_2, x87_4, x87_5, x87_6, x87_7, x87_8, x87_9, x87_1 (a := 47 + 5 * t) (kd_t ht) (by omega), vr_4 ht, x87_3 (a := 50 + 5 * t) (n := 2) (by omega) (kd_f ht), ↓reduceIte, Option.toList, List.nil_append, List.cons_append, nI_add, pk_mul, n_and, n_or, n_xor, nI_leI, nI_ltI, nI_eq, n_z, uI_s, uI_n, bI_n0, bI_n1, bT, bF, if_true, if_false, not_true, not_false_eq_true, pk_div, pk_rem, Nat.reduceEqDiff, Nat.reduceLeDiff, Nat.reduceLT, Nat.reduceAdd, Nat.reduceMul, Nat.reduceSub, Nat.not_lt_zero, Nat.zero_le, reduceCtorEq, ite_self, n_rem, and_self, and_true, true_and, and_false, false_and, hx, c]
  · rw [bI_t c]
    simp (disch := first | assumption | omega | decide) only [x87_0r, x87_0n, x87_2, x87_4, x87_5, x87_6, x87_7, x87_8, x87_9, x87_1 (a := 47 + 5 * t) (kd_t ht) (by omega), vr_4 ht, x87_3 (a := 50 + 5 * t) (n := 2) (by omega) (kd_f ht), ↓reduceIte, Option.toList, List.nil_append, List.cons_append, nI_add, pk_mul, n_and, n_or, n_xor, nI_leI, nI_ltI, nI_eq, n_z, uI_s, uI_n, bI_n0, bI_n1, bT, bF, if_true, if_false, not_true, not_false_eq_true, pk_div, pk_rem, Nat.reduceEqDiff, Nat.reduceLeDiff, Nat.reduceLT, Nat.reduceAdd, Nat.reduceMul, Nat.reduceSub, Nat.not_lt_zero, Nat.zero_le, reduceCtorEq, ite_self, n_rem, and_self, and_true, true_and, and_false, false_and, hx, c]
/-- faultOfClause -/
def fcF (σ : Sg) (K : Nat) : Nat := if 7 < K then 1 else if K ≤ 1 ∧ (σ.2.1 K).isSome = true then 4 else if 24 ≤ σ.1.length then 6 else 0
theorem sp_fcl {σ : Sg} {K : Nat} (ht : t < 4) (hK : K < 44) (hC : ClC I t σ.1 σ.2.1) (h24 : σ.1.length ≤ 24) : ∀ Q, Rn sc (d + 1) 33 0 [some (.ref 67), some (.int (nI K))] [] (K0, I, J, R1 (some (47 + 5 * t))) Q = Q (some (.int (nI (fcF σ K)))) (K0, I, J, R1 (some (47 + 5 * t))) := by
  intro Q
  have h3 := hC.1
  unfold fcF
  by_cases c1 : 7 < K
  · have c1' : ¬ K ≤ 7 := by omega
    rw [if_pos c1]
    simp (disch := first | assumption | omega | decide) only [x33_0, x33_1, x33_2, x33_3, x33_4, ↓reduceIte, Option.toList, List.nil_append, List.cons_append, nI_add, pk_mul, n_and, n_or, n_xor, nI_leI, nI_ltI, nI_eq, n_z, uI_s, uI_n, bI_n0, bI_n1, bT, bF, if_true, if_false, not_true, not_false_eq_true, pk_div, pk_rem, Nat.reduceEqDiff, Nat.reduceLeDiff, Nat.reduceLT, Nat.reduceAdd, Nat.reduceMul, Nat.reduceSub, Nat.not_lt_zero, Nat.zero_le, reduceCtorEq, ite_self, n_rem, and_self, and_true, true_and, and_false, false_and, c1']
  · have c1' : K ≤ 7 := by omega
    rw [if_neg c1]
    have tail : ∀ Q, Rn sc (d + 1) 33 15 [some (.ref 67), some (.int (nI K))] [] (K0, I, J, R1 (some (47 + 5 * t))) Q = Q (some (.int (nI (if 24 ≤ σ.1.length then 6 else 0)))) (K0, I, J, R1 (some (47 + 5 * t))) := fun Q => by
      by_cases c3 : 24 ≤ σ.1.length
      · have c3' : ¬ σ.1.length < 24 := by omega
        rw [if_pos c3]
        simp (disch := first | assumption | omega | decide) only [x33_15, x33_16, x33_18, x33_19, x33_20, x33_21, x33_22, x33_23, x33_17 (a := 47 + 5 * t) (kd_t ht) (by omega), ↓reduceIte, Option.toList, List.nil_append, List.cons_append, nI_add, pk_mul, n_and, n_or, n_xor, nI_leI, nI_ltI, nI_eq, n_z, uI_s, uI_n, bI_n0, bI_n1, bT, bF, if_true, if_false, not_true, not_false_eq_true, pk_div, pk_rem, Nat.reduceEqDiff, Nat.reduceLeDiff, Nat.reduceLT, Nat.reduceAdd, Nat.reduceMul, Nat.reduceSub, Nat.not_lt_zero, Nat.zero_le, reduceCtorEq, ite_self, n_rem, and_self, and_true, true_and, and_false, false_and, valR, h3, c3']
      · have c3' : σ.1.length < 24 := by omega
        rw [if_neg c3]
        simp (disch := first | assumption | omega | decide) only [x33_15, x33_16, x33_18, x33_19, x33_20, x33_21, x33_22, x33_23, x33_17 (a := 47 + 5 * t) (kd_t ht) (by omega), ↓reduceIte, Option.toList, List.nil_append, List.cons_append, nI_add, pk_mul, n_and, n_or, n_xor, nI_leI, nI_ltI, nI_eq, n_z, uI_s, uI_n, bI_n0, bI_n1, bT, bF, if_true, if_false, not_true, not_false_eq_true, pk_div, pk_rem, Nat.reduceEqDiff, Nat.reduceLeDiff, Nat.reduceLT, Nat.reduceAdd, Nat.reduceMul, Nat.reduceSub, Nat.not_lt_zero, Nat.zero_le, reduceCtorEq, ite_self, n_rem, and_self, and_true, true_and, and_false, false_and, valR, h3, c3']
    by_cases c2 : K ≤ 1
    · have c2' : ¬ 1 < K := by omega
      obtain ⟨hn, hs⟩ := hC.2.2 K (by omega)
      cases el : σ.2.1 K with
      | none =>
        have hh := sp_hasC (sc := sc) (d := d) (J := J) (T := some (47 + 5 * t)) ht (show K < 2 by omega) (hn el)
        rw [bI_f (fun q => q rfl)] at hh
        rw [if_neg (fun q => by cases q.2), ← tail Q]
        simp (disch := first | assumption | omega | decide) only [x33_0, x33_1, x33_2, x33_3, x33_4, x33_5, x33_6, x33_7, x33_8, x33_9, x33_10, x33_12, x33_13, x33_14, x33_11r (a0 := 47 + 5 * t) (by omega) (kd_t ht), ↓reduceIte, Option.toList, List.nil_append, List.cons_append, nI_add, pk_mul, n_and, n_or, n_xor, nI_leI, nI_ltI, nI_eq, n_z, uI_s, uI_n, bI_n0, bI_n1, bT, bF, if_true, if_false, not_true, not_false_eq_true, pk_div, pk_rem, Nat.reduceEqDiff, Nat.reduceLeDiff, Nat.reduceLT, Nat.reduceAdd, Nat.reduceMul, Nat.reduceSub, Nat.not_lt_zero, Nat.zero_le, reduceCtorEq, ite_self, n_rem, and_self, and_true, true_and, and_false, false_and, valR, c1', c2', hh]
      | some v =>
        obtain ⟨k, i, e, p, q⟩ := v
        obtain ⟨i3, hi, -⟩ := hs k i e p q el
        have hh := sp_hasC (sc := sc) (d := d) (J := J) (T := some (47 + 5 * t)) ht (show K < 2 by omega) hi
        have ni : ¬ nI i = -1 := fun q => by
          rw [n_m1e (by omega)] at q
          exact q
        rw [bI_t ni] at hh
        rw [if_pos ⟨c2, rfl⟩]
        simp (disch := first | assumption | omega | decide) only [x33_0, x33_1, x33_2, x33_3, x33_4, x33_5, x33_6, x33_7, x33_8, x33_9, x33_10, x33_12, x33_13, x33_14, x33_11r (a0 := 47 + 5 * t) (by omega) (kd_t ht), ↓reduceIte, Option.toList, List.nil_append, List.cons_append, nI_add, pk_mul, n_and, n_or, n_xor, nI_leI, nI_ltI, nI_eq, n_z, uI_s, uI_n, bI_n0, bI_n1, bT, bF, if_true, if_false, not_true, not_false_eq_true, pk_div, pk_rem, Nat.reduceEqDiff, Nat.reduceLeDiff, Nat.reduceLT, Nat.reduceAdd, Nat.reduceMul, Nat.reduceSub, Nat.not_lt_zero, Nat.zero_le, reduceCtorEq, ite_self, n_rem, and_self, and_true, true_and, and_false, false_and, valR, c1', c2', hh]
    · have c2' : 1 < K := by omega
      rw [if_neg (fun q => c2 q.1), ← tail Q]
      simp (disch := first | assumption | omega | decide) only [x33_0, x33_1, x33_2, x33_3, x33_4, x33_5, x33_6, x33_7, ↓reduceIte, Option.toList, List.nil_append, List.cons_append, nI_add, pk_mul, n_and, n_or, n_xor, nI_leI, nI_ltI, nI_eq, n_z, uI_s, uI_n, bI_n0, bI_n1, bT, bF, if_true, if_false, not_true, not_false_eq_true, pk_div, pk_rem, Nat.reduceEqDiff, Nat.reduceLeDiff, Nat.reduceLT, Nat.reduceAdd, Nat.reduceMul, Nat.reduceSub, Nat.not_lt_zero, Nat.zero_le, reduceCtorEq, ite_self, n_rem, and_self, and_true, true_and, and_false, false_and, c1', c2']
theorem ro_t : ∀ W, W < 8 → 2 ≤ W → (roT.getD 0 []).getD W (nI 0) = nI (loF W) ∧ (roT.getD 1 []).getD W (nI 0) = nI (hiF W) ∧ (W < 7 → (roT.getD 2 []).getD W (nI 0) = nI (wdW W) ∧ (roT.getD 3 []).getD W (nI 0) = nI (h2F W)) := by decide +kernel
theorem ms_rd {L lo hi : Nat} (hlo : lo < 2 ^ 31) (hhi : hi < 2 ^ 31) (st : Ss) (h : StC I t b n L st) : ∃ I' v, FrZ t I I' ∧ v ≤ 10000 ∧ StC I' t b n L (ap (rdN b n lo hi) st) ∧ (∀ cs p c p', st = .inr (cs, p) → rdN b n lo hi p = .inr (c, p') → v = tV b n p) ∧ ∀ Q, Rn sc (d + 6) 37 0 [some (.ref 67), some (.int (nI lo)), some (.int (nI hi)), none] [] (K0, I, J, R1 T) Q = Q (some (.int (nI v))) (K0, I', J, R1 T) := by
  rcases st with ⟨f, x⟩ | ⟨cs, p⟩
  · exact ⟨I, 0, FrZ_r, by omega, h, fun cs p c p' e => (by cases e), rnD h⟩
  · obtain ⟨I1, v, f1, s1, hv, q1⟩ := rnL (sc := sc) (d := d) (J := J) (T := T) (lo := lo) (hi := hi) h hlo hhi
    refine ⟨I1, v, f1, ?_, s1, fun cs' p' c p'' e er => ?_, q1⟩
    · have := tV_le (b := b) (n := n) (p := p)
      omega
    · have e2 : p = p' := (Prod.mk.inj (Sum.inr.inj e)).2
      rw [← e2] at er ⊢
      rcases hv with hv | hv
      · exact hv.2.2.2
      · exfalso
        unfold rdN at er
        by_cases c1 : tK b n p = 41
        · rw [if_pos c1] at er
          by_cases c2 : lo ≤ tV b n p ∧ tV b n p ≤ hi
          · exact hv.1 ⟨c1, c2⟩
          · rw [if_neg c2] at er
            cases er
        · rw [if_neg c1] at er
          cases er
end ClC
