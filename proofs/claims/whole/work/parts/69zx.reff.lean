/-! clauses: the reference's reading of a clause -/
def oncF (lw : Nat → Option (Nat × Nat × Nat × Nat × Nat)) : Nat := (if (lw 0).isSome = true then 1 else 0) + if (lw 1).isSome = true then 2 else 0
theorem on_lt {lw : Nat → Option (Nat × Nat × Nat × Nat × Nat)} : oncF lw < 4 := by
  unfold oncF
  split <;> split <;> decide
theorem on_b {lw : Nat → Option (Nat × Nat × Nat × Nat × Nat)} {L : Nat} (hL : L < 2) : oncF lw / 2 ^ L % 2 = 1 ↔ (lw L).isSome = true := by
  unfold oncF
  have : L = 0 ∨ L = 1 := by omega
  rcases this with rfl | rfl
  · by_cases c0 : (lw 0).isSome = true <;> by_cases c1 : (lw 1).isSome = true <;> simp [c0, c1]
  · by_cases c0 : (lw 0).isSome = true <;> by_cases c1 : (lw 1).isSome = true <;> simp [c0, c1]
theorem on_s {lw : Nat → Option (Nat × Nat × Nat × Nat × Nat)} {L : Nat} {v : Nat × Nat × Nat × Nat × Nat} (hL : L < 2) : oncF lw ||| (1 * 2 ^ L) = oncF (setL lw L (some v)) := by
  unfold oncF setL
  have : L = 0 ∨ L = 1 := by omega
  rcases this with rfl | rfl
  · rw [if_pos rfl, if_neg (show ¬ (1 : Nat) = 0 by decide)]
    by_cases c0 : (lw 0).isSome = true <;> by_cases c1 : (lw 1).isSome = true <;> simp [c0, c1]
  · rw [if_pos rfl, if_neg (show ¬ (0 : Nat) = 1 by decide)]
    by_cases c0 : (lw 0).isSome = true <;> by_cases c1 : (lw 1).isSome = true <;> simp [c0, c1]
def ClM (I : Nat → Nat → Int32) (x0 : Nat) (cl : List (Nat × Nat × Nat)) (lw : Nat → Option (Nat × Nat × Nat × Nat × Nat)) : Prop := I 92 x0 = nI cl.length ∧ cl.length ≤ 24 ∧ I 89 19 = nI (oncF lw) ∧ (∀ k, k < cl.length → ((g3 cl k).1 ≤ 7 ∧ (g3 cl k).2.1 ≤ 60 ∧ (g3 cl k).2.2 ≤ 999) ∧ I 92 (x0 + 1 + 3 * k) = nI (g3 cl k).1 ∧ (2 ≤ (g3 cl k).1 → I 92 (x0 + 1 + 3 * k + 1) = nI (g3 cl k).2.1) ∧ (2 ≤ (g3 cl k).1 → (g3 cl k).1 ≤ 6 → I 92 (x0 + 1 + 3 * k + 2) = nI (g3 cl k).2.2)) ∧ ∀ L, L < 2 → ∀ k i e p q, lw L = some (k, i, e, p, q) → k < cl.length ∧ I 92 (x0 + 1 + 3 * k + 1) = nI p ∧ I 92 (x0 + 1 + 3 * k + 2) = nI q
theorem ClM_a {I I' : Nat → Nat → Int32} {x0 W F S : Nat} {cl : List (Nat × Nat × Nat)} {lw lw' : Nat → Option (Nat × Nat × Nat × Nat × Nat)} (h : ClM I x0 cl lw) (h24 : cl.length < 24) (e0 : I' 92 x0 = nI (cl.length + 1)) (fr : ∀ k, x0 < k → k < x0 + 1 + 3 * cl.length → I' 92 k = I 92 k) (hW : W ≤ 7 ∧ F ≤ 60 ∧ S ≤ 999) (eW : I' 92 (x0 + 1 + 3 * cl.length) = nI W) (eF : 2 ≤ W → I' 92 (x0 + 1 + 3 * cl.length + 1) = nI F) (eS : 2 ≤ W → W ≤ 6 → I' 92 (x0 + 1 + 3 * cl.length + 2) = nI S) (h19 : I' 89 19 = nI (oncF lw')) (hl : ∀ L, L < 2 → ∀ k i e p q, lw' L = some (k, i, e, p, q) → lw L = some (k, i, e, p, q) ∨ (k = cl.length ∧ I' 92 (x0 + 1 + 3 * k + 1) = nI p ∧ I' 92 (x0 + 1 + 3 * k + 2) = nI q)) : ClM I' x0 (cl ++ [(W, F, S)]) lw' := by
  obtain ⟨h0, -, -, h3, h4⟩ := h
  have hlen : (cl ++ [(W, F, S)]).length = cl.length + 1 := by rw [List.length_append]; rfl
  refine ⟨by rw [hlen]; exact e0, by omega, h19, fun k hk => ?_, fun L hL k i e p q he => ?_⟩
  · rw [hlen] at hk
    by_cases c : k < cl.length
    · obtain ⟨a0, a1, a2, a3⟩ := h3 k c
      rw [g3_a c]
      exact ⟨a0, (fr _ (by omega) (by omega)).trans a1, fun q => (fr _ (by omega) (by omega)).trans (a2 q), fun q1 q2 => (fr _ (by omega) (by omega)).trans (a3 q1 q2)⟩
    · have ek : k = cl.length := by omega
      rw [ek, g3_e]
      exact ⟨hW, eW, eF, eS⟩
  · rw [hlen]
    rcases hl L hL k i e p q he with o | ⟨o1, o2, o3⟩
    · obtain ⟨a1, a2, a3⟩ := h4 L hL k i e p q o
      exact ⟨by omega, (fr _ (by omega) (by omega)).trans a2, (fr _ (by omega) (by omega)).trans a3⟩
    · exact ⟨by omega, o2, o3⟩
def RB (I : Nat → Nat → Int32) (J : Nat → Nat → Int64) (b : Nat → Nat) (n x0 : Nat) (σ : Sg) (p : Nat) : Prop := TpM I b n ∧ p ≤ n ∧ TkM I J b n p ∧ I 89 12 = nI x0 ∧ OtM I x0 σ.2.2.2 ∧ σ.2.2.2.length ≤ tS b n p ∧ ClM I x0 σ.1 σ.2.1
def FrB (x0 : Nat) (I I' : Nat → Nat → Int32) : Prop := ∀ c k, (c ≠ 89 ∨ k < 7 ∨ 19 < k) → (c ≠ 92 ∨ k < x0 ∨ x0 + 681 ≤ k) → c ≠ 94 → I' c k = I c k
theorem FrB_r {x0 : Nat} {I : Nat → Nat → Int32} : FrB x0 I I := fun _ _ _ _ _ => rfl
theorem FrB_t {x0 : Nat} {I I' I'' : Nat → Nat → Int32} (h : FrB x0 I I') (h' : FrB x0 I' I'') : FrB x0 I I'' := fun c k a1 a2 a3 => (h' c k a1 a2 a3).trans (h c k a1 a2 a3)
section RefF
variable {sc : Sc} {d : Nat} {T : Option Nat} {b : Nat → Nat} {n L x0 : Nat} {I : Nat → Nat → Int32} {J : Nat → Nat → Int64}
theorem sp_lawM {out : List (Nat × Nat)} {p x : Nat} (hx : x0 ≤ 2043) (hL : L < 2) (hx1 : x0 < x) (hx2 : x + 2 < x0 + 73) (t : TpM I b n) (hp : p ≤ n) (k : TkM I J b n p) (h12 : I 89 12 = nI x0) (h14 : I 89 14 = nI L) (ho : OtM I x0 out) (hl : out.length ≤ tS b n p) : ∃ I' J', (∀ c k, (c ≠ 89 ∨ k < 7 ∨ 18 < k ∨ k = 12) → (c ≠ 92 ∨ (k < x0 + 73 ∧ k ≠ x + 1 ∧ k ≠ x + 2) ∨ x0 + 681 ≤ k) → c ≠ 94 → I' c k = I c k) ∧ RsO (smr b n (lv1 b n L 8).1 p) (fun f y => f < 7 ∧ 0 < f ∧ I' 89 8 = nI y ∧ ∀ Q, Rn sc (d + 10) 215 0 [some (.ref 89), some (.int (nI L)), some (.int (nI x))] [] (K0, I, J, R1 T) Q = Q (some (.int (nI f))) (K0, I', J', R1 T)) (fun c p' => (TpM I' b n ∧ p' ≤ n ∧ TkM I' J' b n p' ∧ OtM I' x0 (out ++ c.2) ∧ (out ++ c.2).length ≤ tS b n p' ∧ I' 89 12 = nI x0 ∧ I' 92 (x + 1) = nI out.length ∧ I' 92 (x + 2) = nI (out.length + c.2.length)) ∧ ∀ Q, Rn sc (d + 10) 215 0 [some (.ref 89), some (.int (nI L)), some (.int (nI x))] [] (K0, I, J, R1 T) Q = Q (some (.int (nI 0))) (K0, I', J', R1 T)) := by
  obtain ⟨I1, eI⟩ : ∃ X, X = uI I 92 (x + 1) (nI out.length) := ⟨_, rfl⟩
  have h13 := ho.1
  have g : ∀ c k, (c ≠ 92 ∨ k ≠ x + 1) → I1 c k = I c k := fun c k hc => by rw [eI, uI_n (by omega)]
  have n3 := t.1
  have sl := (tS_le (b := b) hp).2
  have dh : (nI L).toInt < 2 ∨ 7 < (nI L).toInt := by
    rw [nI_toInt (by omega)]
    omega
  obtain ⟨I2, J2, f2, r2⟩ := sp_sumM (sc := sc) (d := d) (T := T) (J := J) hx hL (TpM_r t (fun k hk => g _ _ (by omega)) (fun k => g _ _ (by omega))) hp (TkM_r k (fun k a1 a2 => g _ _ (by omega))) ((g _ _ (by omega)).trans h12) ((g _ _ (by omega)).trans h14) ⟨(g _ _ (by omega)).trans ho.1, fun j hj => ⟨(g _ _ (by omega)).trans (ho.2 j hj).1, (g _ _ (by omega)).trans (ho.2 j hj).2⟩⟩ hl
  have fr : ∀ v c k, (c ≠ 89 ∨ k < 7 ∨ 18 < k ∨ k = 12) → (c ≠ 92 ∨ (k < x0 + 73 ∧ k ≠ x + 1 ∧ k ≠ x + 2) ∨ x0 + 681 ≤ k) → c ≠ 94 → uI I2 92 (x + 2) v c k = I c k := fun v c k a1 a2 a3 => by rw [uI_n (by omega), f2 c k a1 (by omega) a3, g c k (by omega)]
  rcases e1 : smr b n (lv1 b n L 8).1 p with ⟨f, y⟩ | ⟨c, p'⟩
  · rw [e1] at r2
    obtain ⟨z1, z2, z3, z4⟩ := r2
    rw [eI] at z4
    refine ⟨uI I2 92 (x + 2) (I2 89 13), J2, fr _, (nz_smr hp e1).2, z2, by rw [uI_n (by omega)]; exact z3, fun Q => ?_⟩
    simp (disch := first | assumption | omega | decide) only [x215_0, x215_1_d dh, x215_58, x215_59, x215_60, x215_61, x213_0, x213_1, x213_2, x213_3, x213_4, x213_5, x213_6, x213_7, x213_8, x213_9, x213_10, x213_11, x213_12, x213_13, x213_14, x213_15, x213_16, x213_17, x213_18, x213_19, x213_20, ↓reduceIte, Option.toList, List.nil_append, List.cons_append, nI_add, pk_mul, n_and, n_or, n_xor, nI_leI, nI_ltI, nI_eq, n_z, uI_s, uI_n, bI_n0, bI_n1, bT, bF, if_true, if_false, not_true, not_false_eq_true, pk_div, pk_rem, Nat.reduceEqDiff, Nat.reduceLeDiff, Nat.reduceLT, Nat.reduceAdd, Nat.reduceMul, Nat.reduceSub, Nat.not_lt_zero, Nat.zero_le, reduceCtorEq, ite_self, n_rem, and_self, and_true, true_and, and_false, false_and, h13, z4]
  · rw [e1] at r2
    obtain ⟨⟨t2, hp2, k2, o2, l2⟩, z4⟩ := r2
    rw [eI] at z4
    have e13 := o2.1
    rw [List.length_append] at e13
    refine ⟨uI I2 92 (x + 2) (nI (out.length + c.2.length)), J2, fr _, ⟨TpM_r t2 (fun k hk => uI_n (by omega)) (fun k => uI_n (by omega)), hp2, TkM_r k2 (fun k a1 a2 => uI_n (by omega)), ⟨(uI_n (by omega)).trans o2.1, fun j hj => ⟨(uI_n (by omega)).trans (o2.2 j hj).1, (uI_n (by omega)).trans (o2.2 j hj).2⟩⟩, l2, ?_, ?_, uI_s⟩, fun Q => ?_⟩
    · rw [uI_n (by omega), f2 _ _ (by omega) (by omega) (by omega), g _ _ (by omega)]
      exact h12
    · rw [uI_n (by omega), f2 _ _ (by omega) (by omega) (by omega), eI, uI_s]
    · simp (disch := first | assumption | omega | decide) only [x215_0, x215_1_d dh, x215_58, x215_59, x215_60, x215_61, x213_0, x213_1, x213_2, x213_3, x213_4, x213_5, x213_6, x213_7, x213_8, x213_9, x213_10, x213_11, x213_12, x213_13, x213_14, x213_15, x213_16, x213_17, x213_18, x213_19, x213_20, ↓reduceIte, Option.toList, List.nil_append, List.cons_append, nI_add, pk_mul, n_and, n_or, n_xor, nI_leI, nI_ltI, nI_eq, n_z, uI_s, uI_n, bI_n0, bI_n1, bT, bF, if_true, if_false, not_true, not_false_eq_true, pk_div, pk_rem, Nat.reduceEqDiff, Nat.reduceLeDiff, Nat.reduceLT, Nat.reduceAdd, Nat.reduceMul, Nat.reduceSub, Nat.not_lt_zero, Nat.zero_le, reduceCtorEq, ite_self, n_rem, and_self, and_true, true_and, and_false, false_and, h13, z4, e13]
end RefF
