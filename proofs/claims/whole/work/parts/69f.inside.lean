/-! roads inside a set -/
theorem sm_one {b c : Nat} : ∀ n, sm (fun g => if g = b then c else 0) n = if b < n then c else 0
  | 0 => rfl
  | n + 1 => by
    rw [sm, sm_one n]
    by_cases e : n = b
    · subst e
      rw [if_neg (Nat.lt_irrefl n), if_pos rfl, if_pos (by omega)]
      omega
    · rw [if_neg e]
      by_cases h : b < n
      · rw [if_pos h, if_pos (by omega)]
        rfl
      · rw [if_neg h, if_neg (by omega)]
theorem sm_uni {P : Nat → Prop} [dp : ∀ j, Decidable (P j)] : ∀ n, (∀ i j, i < j → j < n → ¬ (P i ∧ P j)) → ((∃ j, j < n ∧ P j) → sm (fun j => if P j then 1 else 0) n = 1) ∧ ((¬ ∃ j, j < n ∧ P j) → sm (fun j => if P j then 1 else 0) n = 0)
  | 0, _ => ⟨fun ⟨j, hj, _⟩ => by omega, fun _ => rfl⟩
  | n + 1, h => by
    obtain ⟨h1, h2⟩ := sm_uni (P := P) n (fun i j hi hj => h i j hi (by omega))
    rw [sm]
    by_cases c : P n
    · rw [if_pos c, h2 (fun ⟨j, hj, pj⟩ => h j n hj (by omega) ⟨pj, c⟩)]
      exact ⟨fun _ => rfl, fun hn => absurd ⟨n, by omega, c⟩ hn⟩
    · rw [if_neg c]
      refine ⟨fun ⟨j, hj, pj⟩ => ?_, fun hn => ?_⟩
      · by_cases e : j = n
        · subst e
          exact absurd pj c
        · exact h1 ⟨j, by omega, pj⟩
      · exact h2 (fun ⟨j, hj, pj⟩ => hn ⟨j, by omega, pj⟩)
/-- whether road j is inside -/
def rdI (A : Nat → Nat) (S j : Nat) : Nat := if S.testBit (A (40 + 2 * j)) = true ∧ S.testBit (A (40 + 2 * j + 1)) = true then 1 else 0
def inR' (A : Nat → Nat) (S : Nat) : Nat := sm (rdI A S) (A 0)
def rdJ (A : Nat → Nat) (l g j : Nat) : Prop := (A (40 + 2 * j) = l ∧ A (40 + 2 * j + 1) = g) ∨ (A (40 + 2 * j + 1) = l ∧ A (40 + 2 * j) = g)
theorem orb8 {M l i : Nat} : (M ||| 2 ^ l).testBit i = (M.testBit i || decide (l = i)) := by rw [Nat.testBit_or, Nat.testBit_two_pow]
theorem sm_if {P : Nat → Prop} [dp : ∀ j, Decidable (P j)] {Q : Nat → Prop} [dq : ∀ j, Decidable (Q j)] {n : Nat} (h : ∀ j, j < n → (P j ↔ Q j)) : sm (fun j => if P j then 1 else 0) n = sm (fun j => if Q j then 1 else 0) n := sm_c n (fun j hj => by
  by_cases c : P j
  · rw [if_pos c, if_pos ((h j hj).mp c)]
  · rw [if_neg c, if_neg (fun q => c ((h j hj).mpr q))])
theorem rd_add {A : Nat → Nat} {M l j : Nat} (dj : ∀ g, Decidable (rdJ A l g j)) (w : Wf A) (hj : j < A 0) (hl : M.testBit l = false) : rdI A (M ||| 2 ^ l) j = rdI A M j + sm (fun g => if M.testBit g = true ∧ rdJ A l g j then 1 else 0) 8 := by
  obtain ⟨a8, b8, ab⟩ := w.2.2.1.1 j hj
  unfold rdI
  rw [orb8, orb8]
  by_cases ca : l = A (40 + 2 * j)
  · have e1 : M.testBit (A (40 + 2 * j)) = false := by rw [← ca]; exact hl
    have e2 : decide (l = A (40 + 2 * j + 1)) = false := decide_eq_false (fun e => ab (ca.symm.trans e))
    have e3 : sm (fun g => if M.testBit g = true ∧ rdJ A l g j then 1 else 0) 8 = sm (fun g => if g = A (40 + 2 * j + 1) then (if M.testBit (A (40 + 2 * j + 1)) = true then 1 else 0) else 0) 8 := sm_c 8 (fun g hg => by
      by_cases eg : g = A (40 + 2 * j + 1)
      · rw [if_pos eg]
        by_cases cm : M.testBit (A (40 + 2 * j + 1)) = true
        · rw [if_pos cm, if_pos ⟨by rw [eg]; exact cm, Or.inl ⟨ca.symm, eg.symm⟩⟩]
        · rw [if_neg cm, if_neg (fun h => cm (by rw [← eg]; exact h.1))]
      · rw [if_neg eg, if_neg]
        rintro ⟨h1, ⟨h2, h3⟩ | ⟨h2, h3⟩⟩
        · exact eg h3.symm
        · exact ab (ca.symm.trans h2.symm))
    rw [e3, sm_one, if_pos b8, e1, e2, Bool.false_or, Bool.or_false, decide_eq_true ca]
    by_cases cm : M.testBit (A (40 + 2 * j + 1)) = true
    · rw [if_pos ⟨rfl, cm⟩, if_pos cm, if_neg (fun h => Bool.noConfusion h.1)]
    · rw [if_neg (fun h => cm h.2), if_neg cm, if_neg (fun h => cm h.2)]
  · rw [decide_eq_false ca, Bool.or_false]
    by_cases cb : l = A (40 + 2 * j + 1)
    · have e1 : M.testBit (A (40 + 2 * j + 1)) = false := by rw [← cb]; exact hl
      have e3 : sm (fun g => if M.testBit g = true ∧ rdJ A l g j then 1 else 0) 8 = sm (fun g => if g = A (40 + 2 * j) then (if M.testBit (A (40 + 2 * j)) = true then 1 else 0) else 0) 8 := sm_c 8 (fun g hg => by
        by_cases eg : g = A (40 + 2 * j)
        · rw [if_pos eg]
          by_cases cm : M.testBit (A (40 + 2 * j)) = true
          · rw [if_pos cm, if_pos ⟨by rw [eg]; exact cm, Or.inr ⟨cb.symm, eg.symm⟩⟩]
          · rw [if_neg cm, if_neg (fun h => cm (by rw [← eg]; exact h.1))]
        · rw [if_neg eg, if_neg]
          rintro ⟨h1, ⟨h2, h3⟩ | ⟨h2, h3⟩⟩
          · exact ca h2.symm
          · exact eg h3.symm)
      rw [e3, sm_one, if_pos a8, e1, Bool.false_or, decide_eq_true cb]
      by_cases cm : M.testBit (A (40 + 2 * j)) = true
      · rw [if_pos ⟨cm, rfl⟩, if_pos cm, if_neg (fun h => Bool.noConfusion h.2)]
      · rw [if_neg (fun h => cm h.1), if_neg cm, if_neg (fun h => cm h.1)]
    · rw [decide_eq_false cb, Bool.or_false]
      have e3 : sm (fun g => if M.testBit g = true ∧ rdJ A l g j then 1 else 0) 8 = 0 := (sm_c (g := fun _ => 0) 8 (fun g hg => if_neg (by
        rintro ⟨h1, ⟨h2, h3⟩ | ⟨h2, h3⟩⟩
        · exact ca h2.symm
        · exact cb h2.symm))).trans (sm_0 8)
      rw [e3]
      omega
theorem cn_sm {x : Nat} : ∀ n, cn x n = sm (fun g => if x.testBit g = true then 1 else 0) n
  | 0 => rfl
  | n + 1 => by
    rw [cn, sm, cn_sm n]
    by_cases c : x / 2 ^ n % 2 = 1
    · rw [if_pos (tb_iff.mp c), c]
    · rw [if_neg (fun h => c (tb_iff.mpr h))]
      omega
theorem in_add {A : Nat → Nat} {M l : Nat} (w : Wf A) (hM : M < 256) (hl : M.testBit l = false) : inR' A (M ||| 2 ^ l) = inR' A M + pcN (bes A l &&& M) := by
  have dj : ∀ j g, Decidable (rdJ A l g j) := fun j g => Classical.propDecidable _
  unfold inR'
  have e1 : sm (rdI A (M ||| 2 ^ l)) (A 0) = sm (fun j => rdI A M j + sm (fun g => @ite Nat (M.testBit g = true ∧ rdJ A l g j) (@instDecidableAnd _ _ _ (dj j g)) 1 0) 8) (A 0) := sm_c _ (fun j hj => rd_add (dj j) w hj hl)
  rw [e1, sm_add]
  congr 1
  have e2 : sm (fun j => sm (fun g => @ite Nat (M.testBit g = true ∧ rdJ A l g j) (@instDecidableAnd _ _ _ (dj j g)) 1 0) 8) (A 0) = sm (fun g => sm (fun j => @ite Nat (M.testBit g = true ∧ rdJ A l g j) (@instDecidableAnd _ _ _ (dj j g)) 1 0) (A 0)) 8 := sm_swap (F := fun j g => @ite Nat (M.testBit g = true ∧ rdJ A l g j) (@instDecidableAnd _ _ _ (dj j g)) 1 0) (A 0)
  have la : bes A l &&& M < 256 := Nat.and_lt_two_pow (n := 8) _ hM
  rw [e2, pc_cn _ la, cn_sm]
  apply sm_c
  intro g hg
  rw [Nat.testBit_and]
  by_cases cm : M.testBit g = true
  · have hgl : g ≠ l := fun e => by
      subst e
      rw [hl] at cm
      cases cm
    have e9 : ((bes A l).testBit g && M.testBit g) = (bes A l).testBit g := by rw [cm, Bool.and_true]
    rw [e9]
    have u := sm_uni (P := fun j => M.testBit g = true ∧ rdJ A l g j) (dp := fun j => @instDecidableAnd _ _ _ (dj j g)) (A 0) (by
      rintro i j hij hj ⟨⟨-, h1⟩, ⟨-, h2⟩⟩
      obtain ⟨q1, q2⟩ := w.2.2.1.2 j i hij hj
      rcases h1 with ⟨a1, a2⟩ | ⟨a1, a2⟩ <;> rcases h2 with ⟨b1, b2⟩ | ⟨b1, b2⟩
      · exact q1 ⟨a1.trans b1.symm, a2.trans b2.symm⟩
      · exact q2 ⟨a1.trans b1.symm, a2.trans b2.symm⟩
      · exact q2 ⟨a2.trans b2.symm, a1.trans b1.symm⟩
      · exact q1 ⟨a2.trans b2.symm, a1.trans b1.symm⟩)
    by_cases cb : (bes A l).testBit g = true
    · rw [if_pos cb]
      obtain ⟨j, hj, h⟩ := (bs_bit hgl (A 0)).mp (tb_iff.mpr cb)
      exact u.1 ⟨j, hj, cm, h⟩
    · rw [if_neg cb]
      exact u.2 (fun ⟨j, hj, _, h⟩ => cb (tb_iff.mp ((bs_bit hgl (A 0)).mpr ⟨j, hj, h⟩)))
  · rw [if_neg (fun h => by
      rw [Bool.and_eq_true] at h
      exact cm h.2)]
    exact (sm_c (g := fun _ => 0) (A 0) (fun j hj => if_neg (fun h => cm h.1))).trans (sm_0 (A 0))
theorem in_0 {A : Nat → Nat} : inR' A 0 = 0 := (sm_c (g := fun _ => 0) (A 0) (fun j hj => if_neg (fun h => by rw [Nat.zero_testBit] at h; exact Bool.noConfusion h.1))).trans (sm_0 (A 0))
theorem in_le {A : Nat → Nat} {S : Nat} (w : Wf A) : inR' A S ≤ 12 := by
  have key : ∀ n, sm (rdI A S) n ≤ n := by
    intro n
    induction n with
    | zero => exact Nat.le_refl _
    | succ n ih =>
      rw [sm]
      unfold rdI at ih ⊢
      split <;> omega
  have := key (A 0)
  have : A 0 ≤ 12 := w.1.1
  unfold inR'
  omega
theorem low_ok : ∀ n, n < 256 → 0 < n → lowN n < 8 ∧ (n &&& (n - 1)).testBit (lowN n) = false ∧ (n &&& (n - 1)) ||| 2 ^ lowN n = n ∧ n &&& (n - 1) < n := by decide +kernel
section Inside
variable {sc : Sc} {d : Nat} {J : Nat → Nat → Int64} {T : Option Nat} {A : Nat → Nat}
theorem sp_inside {I : Nat → Nat → Int32} (w : Wf A) (eB : BsC I A) : ∃ I', (∀ c k, c ≠ 74 → I' c k = I c k) ∧ (∀ S, S < 256 → I' 74 S = nI (inR' A S)) ∧ ∀ Q, Rn sc (d + 2) 71 0 [some (.ref 72), none, none, none] [] (K0, I, J, R1 T) Q = Q none (K0, I', J, R1 T) := by
  obtain ⟨⟨I', u2, u3⟩, ⟨h1, h2⟩, h3⟩ := iterE (St := (Nat → Nat → Int32) × Option Value × Option Value) (fun j s => (∀ c k, c ≠ 74 → s.1 c k = I c k) ∧ ∀ S, S < j + 1 → s.1 74 S = nI (inR' A S)) (fun j s => fun Q => Rn sc (d + 2) 71 7 [some (.ref 72), some (.int (nI (j + 1))), s.2.1, s.2.2] [] (K0, s.1, J, R1 T) Q) 255 (by
    rintro j ⟨I1, u2, u3⟩ hj ⟨f1, k1⟩
    have f1 : ∀ c k, c ≠ 74 → I1 c k = I c k := f1
    have k1 : ∀ S, S < j + 1 → I1 74 S = nI (inR' A S) := k1
    obtain ⟨n, en⟩ : ∃ n, n = j + 1 := ⟨_, rfl⟩
    rw [← en] at k1
    have hn : n < 256 := by omega
    have ln : ¬ 256 ≤ n := by omega
    obtain ⟨l1, l2, l3, l4⟩ := low_ok n hn (by omega)
    have lw := fun Q => sp_lowestIn (Q := Q) (sc := sc) (d := d) (I := I1) (J := J) (T := T) hn (show 0 < n by omega)
    have e4 : I1 4 (lowN n) = nI (bes A (lowN n)) := (f1 _ _ (by omega)).trans (eB _ l1)
    have lr : n &&& (n - 1) < 256 := by omega
    have k2 := k1 _ l4
    have ea := in_add (A := A) w lr l2
    rw [l3] at ea
    have lb : bes A (lowN n) &&& (n &&& (n - 1)) < 256 := Nat.and_lt_two_pow (n := 8) _ lr
    refine ⟨(uI I1 74 n (nI (inR' A n)), some (.int (nI (lowN n))), some (.int (nI (n &&& (n - 1))))), ⟨fun c k hc => (uI_n (by omega)).trans (f1 c k hc), fun S hS => ?_⟩, funext fun Q => ?_⟩
    · show uI I1 74 n (nI (inR' A n)) 74 S = _
      by_cases e : S = n
      · rw [e, uI_s]
      · rw [uI_n (by omega)]
        exact k1 S (by omega)
    · show Rn _ _ _ _ _ _ _ _ = Rn _ _ _ _ _ _ _ _
      rw [← en, x71_7, ea]
      simp (disch := first | assumption | omega | decide) only [x71_8, x71_9, x71_10, x71_11, x71_12, x71_13, x71_14, x71_15, x71_16, x71_17, x71_18, x71_19, x71_20, x71_21, x71_22, x71_23, x71_24, x71_25, x71_26, x71_27, x71_28, x71_29, x71_30, x71_31, x71_32, x71_33, x71_34, x71_35, x71_36, x71_37, ↓reduceIte, Option.toList, List.nil_append, List.cons_append, nI_add, pk_mul, n_and, n_or, n_xor, nI_leI, nI_ltI, nI_eq, n_z, uI_s, uI_n, bI_n0, bI_n1, bT, bF, if_true, if_false, not_true, not_false_eq_true, pk_div, pk_rem, Nat.reduceEqDiff, Nat.reduceLeDiff, Nat.reduceLT, Nat.reduceAdd, Nat.reduceMul, Nat.reduceSub, Nat.not_lt_zero, Nat.zero_le, reduceCtorEq, ite_self, n_rem, and_self, and_true, true_and, and_false, false_and, ln, lw, n_sub (show 1 ≤ n by omega), k2, e4, sp_bitCount]) (uI I 74 0 (nI 0), none, none) ⟨fun c k hc => uI_n (by omega), fun S hS => by
        obtain rfl : S = 0 := by omega
        show uI I 74 0 (nI 0) 74 0 = _
        rw [uI_s, in_0]⟩
  refine ⟨I', h1, fun S hS => h2 S hS, fun Q => ?_⟩
  have h3' := congrFun h3 Q
  simp (disch := first | assumption | omega | decide) only [x71_0, x71_1, x71_2, x71_3, x71_4, x71_5, x71_6, ↓reduceIte, Option.toList, List.nil_append, List.cons_append, nI_add, pk_mul, n_and, n_or, n_xor, nI_leI, nI_ltI, nI_eq, n_z, uI_s, uI_n, bI_n0, bI_n1, bT, bF, if_true, if_false, not_true, not_false_eq_true, pk_div, pk_rem, Nat.reduceEqDiff, Nat.reduceLeDiff, Nat.reduceLT, Nat.reduceAdd, Nat.reduceMul, Nat.reduceSub, Nat.not_lt_zero, Nat.zero_le, reduceCtorEq, ite_self, n_rem, and_self, and_true, true_and, and_false, false_and]
  refine Eq.trans h3' ?_
  show Rn _ _ _ _ _ _ _ _ = _
  rw [x71_7]
  simp (disch := first | assumption | omega | decide) only [x71_8, x71_9, x71_38, ↓reduceIte, Option.toList, List.nil_append, List.cons_append, nI_add, pk_mul, n_and, n_or, n_xor, nI_leI, nI_ltI, nI_eq, n_z, uI_s, uI_n, bI_n0, bI_n1, bT, bF, if_true, if_false, not_true, not_false_eq_true, pk_div, pk_rem, Nat.reduceEqDiff, Nat.reduceLeDiff, Nat.reduceLT, Nat.reduceAdd, Nat.reduceMul, Nat.reduceSub, Nat.not_lt_zero, Nat.zero_le, reduceCtorEq, ite_self, n_rem, and_self, and_true, true_and, and_false, false_and, Nat.le_refl]
end Inside
