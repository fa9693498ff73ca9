/-! the fewest, of like ones the lowest: upwards and downwards -/
theorem pc_cn : ∀ n, n < 256 → pcN n = cn n 8 := by decide +kernel
theorem sub_pc {t b : Nat} (ht : t < 256) (hb : b < 256) (h : ∀ i, t.testBit i = true → b.testBit i = true) : pcN t < pcN b ∨ t = b := by
  by_cases e : t = b
  · exact Or.inr e
  · left
    have : ∃ i, t.testBit i ≠ b.testBit i := by
      apply Classical.byContradiction
      intro hn
      exact e (Nat.eq_of_testBit_eq (fun i => Classical.byContradiction (fun hi => hn ⟨i, hi⟩)))
    obtain ⟨i, hi⟩ := this
    have h1 : b.testBit i = true := by
      cases c : b.testBit i
      · cases c2 : t.testBit i
        · exact absurd (c2.trans c.symm) hi
        · rw [h i c2] at c
          cases c
      · rfl
    have h2 : t.testBit i = false := by
      cases c : t.testBit i
      · rfl
      · exact absurd (c.trans h1.symm) hi
    rw [pc_cn t ht, pc_cn b hb]
    exact cn_lt h h1 h2 8 (tb_lt hb h1)
def upN (P : Nat → Prop) [dp : ∀ s, Decidable (P s)] (b0 : Nat) : Nat → Nat
  | 0 => b0
  | s + 1 => if pcN s < pcN (upN P b0 s) ∧ P s then s else upN P b0 s
def dnN (P : Nat → Prop) [dp : ∀ s, Decidable (P s)] (i0 : Nat) : Nat → Nat
  | 0 => i0
  | k + 1 => if P (255 - k) ∧ (dnN P i0 k = 0 ∨ pcN (255 - k) ≤ pcN (dnN P i0 k - 1)) then 255 - k + 1 else dnN P i0 k
theorem dnN_s {P : Nat → Prop} [dp : ∀ s, Decidable (P s)] {i0 k : Nat} : dnN P i0 (k + 1) = if P (255 - k) ∧ (dnN P i0 k = 0 ∨ pcN (255 - k) ≤ pcN (dnN P i0 k - 1)) then 255 - k + 1 else dnN P i0 k := rfl
theorem up_inv {P : Nat → Prop} [dp : ∀ s, Decidable (P s)] {b0 : Nat} (hb : b0 < 256) (hP : P b0) (H0 : ∀ t, t < 256 → P t → pcN t < pcN b0 ∨ t = b0) : ∀ s, s ≤ 256 → P (upN P b0 s) ∧ upN P b0 s < 256 ∧ (∀ t, t < s → P t → pcN (upN P b0 s) < pcN t ∨ (pcN (upN P b0 s) = pcN t ∧ upN P b0 s ≤ t)) ∧ (upN P b0 s = b0 ∨ upN P b0 s < s)
  | 0, _ => ⟨hP, hb, fun t ht => by omega, Or.inl rfl⟩
  | s + 1, hs => by
    obtain ⟨h1, h2, h3, h4⟩ := up_inv hb hP H0 s (by omega)
    rw [upN]
    by_cases c : pcN s < pcN (upN P b0 s) ∧ P s
    · rw [if_pos c]
      refine ⟨c.2, by omega, fun t ht hPt => ?_, Or.inr (by omega)⟩
      by_cases e : t = s
      · subst e
        exact Or.inr ⟨rfl, Nat.le_refl _⟩
      · have := h3 t (by omega) hPt
        omega
    · rw [if_neg c]
      refine ⟨h1, h2, fun t ht hPt => ?_, by omega⟩
      by_cases e : t = s
      · subst e
        have h5 : ¬ pcN t < pcN (upN P b0 t) := fun h => c ⟨h, hPt⟩
        rcases h4 with h4 | h4
        · rcases H0 t (by omega) hPt with h6 | h6
          · rw [h4] at h5
            exact absurd h6 h5
          · rw [h4, ← h6]
            exact Or.inr ⟨rfl, Nat.le_refl _⟩
        · omega
      · exact h3 t (by omega) hPt
theorem dn_inv {P : Nat → Prop} [dp : ∀ s, Decidable (P s)] {i0 : Nat} (hi : i0 = 0 ∨ (i0 = 256 ∧ P 255)) : ∀ k, k ≤ 256 → (dnN P i0 k = 0 ∧ ∀ t, 256 - k ≤ t → t < 256 → ¬ P t) ∨ ∃ b, dnN P i0 k = b + 1 ∧ b < 256 ∧ P b ∧ ∀ t, 256 - k ≤ t → t < 256 → P t → pcN b < pcN t ∨ (pcN b = pcN t ∧ b ≤ t)
  | 0, _ => by
    rcases hi with rfl | ⟨rfl, h⟩
    · exact Or.inl ⟨rfl, fun t h1 h2 => by omega⟩
    · exact Or.inr ⟨255, rfl, by omega, h, fun t h1 h2 => by omega⟩
  | k + 1, hk => by
    rw [dnN]
    rcases dn_inv hi k (by omega) with ⟨h1, h2⟩ | ⟨b, h1, h2, h3, h4⟩
    · by_cases c : P (255 - k)
      · rw [if_pos ⟨c, Or.inl h1⟩]
        refine Or.inr ⟨255 - k, rfl, by omega, c, fun t t1 t2 hPt => ?_⟩
        by_cases e : t = 255 - k
        · rw [e]
          exact Or.inr ⟨rfl, Nat.le_refl _⟩
        · exact absurd hPt (h2 t (by omega) t2)
      · rw [if_neg (fun h => c h.1)]
        refine Or.inl ⟨h1, fun t t1 t2 hPt => ?_⟩
        by_cases e : t = 255 - k
        · rw [e] at hPt
          exact c hPt
        · exact h2 t (by omega) t2 hPt
    · rw [h1, Nat.add_sub_cancel]
      by_cases c : P (255 - k) ∧ (b + 1 = 0 ∨ pcN (255 - k) ≤ pcN b)
      · rw [if_pos c]
        refine Or.inr ⟨255 - k, rfl, by omega, c.1, fun t t1 t2 hPt => ?_⟩
        by_cases e : t = 255 - k
        · rw [e]
          exact Or.inr ⟨rfl, Nat.le_refl _⟩
        · have := h4 t (by omega) t2 hPt
          have := c.2
          omega
      · rw [if_neg c]
        refine Or.inr ⟨b, rfl, h2, h3, fun t t1 t2 hPt => ?_⟩
        by_cases e : t = 255 - k
        · rw [e] at hPt ⊢
          have : ¬ pcN (255 - k) ≤ pcN b := fun h => c ⟨hPt, Or.inr h⟩
          omega
        · exact h4 t (by omega) t2 hPt
theorem ud_eq {P : Nat → Prop} [dp : ∀ s, Decidable (P s)] {b0 i0 : Nat} (hb : b0 < 256) (hP : P b0) (H0 : ∀ t, t < 256 → P t → pcN t < pcN b0 ∨ t = b0) (hi : i0 = 0 ∨ (i0 = 256 ∧ P 255)) : dnN P i0 256 = upN P b0 256 + 1 := by
  obtain ⟨h1, h2, h3, h4⟩ := up_inv hb hP H0 256 (by omega)
  rcases dn_inv hi 256 (by omega) with ⟨k1, k2⟩ | ⟨b, k1, k2, k3, k4⟩
  · exact absurd hP (k2 b0 (by omega) hb)
  · rw [k1]
    have a1 := h3 b k2 k3
    have a2 := k4 _ (by omega) h2 h1
    have : b = upN P b0 256 := by omega
    rw [this]
def dwI (k : Nat) : Int32 := if k ≤ 255 then nI (255 - k) else -1
theorem dwI_t {k : Nat} (h : k ≤ 255) : dwI k = nI (255 - k) := if_pos h
theorem dwI_s {k : Nat} (h : k ≤ 255) : nI (255 - k) + (-1) = dwI (k + 1) := by
  unfold dwI
  by_cases c : k + 1 ≤ 255
  · rw [if_pos c, n_m1, nI_add]
    apply Int32.toBitVec_inj.1
    show BitVec.ofNat 32 (255 - k + 4294967295) = BitVec.ofNat 32 (255 - (k + 1))
    apply BitVec.eq_of_toNat_eq
    rw [BitVec.toNat_ofNat, BitVec.toNat_ofNat]
    omega
  · rw [if_neg c, show k = 255 by omega]
    decide
/-- the other houses -/
def cmS (s : Nat) : Nat := 255 &&& (s ^^^ 4294967295)
theorem cm_lt {s : Nat} : cmS s < 256 := Nat.lt_of_le_of_lt Nat.and_le_left (by decide)
theorem cm_b {s i : Nat} (hi : i < 8) : (cmS s).testBit i = !s.testBit i := by
  unfold cmS
  rw [Nat.testBit_and, t255 i hi, ng_bit (by omega), Bool.true_and]
abbrev PB (A : Nat → Nat) (a b s : Nat) : Prop := s &&& (2 ^ a ||| 2 ^ b) = 0 ∧ ¬ bl A (cmS s) a 7 / 2 ^ b % 2 = 1
theorem en_iff {s a b : Nat} : s &&& (2 ^ a ||| 2 ^ b) = 0 ↔ ¬ s / 2 ^ a % 2 = 1 ∧ ¬ s / 2 ^ b % 2 = 1 := by
  rw [tb_iff, tb_iff]
  constructor
  · intro e
    constructor
    · intro h
      have h2 : (s &&& (2 ^ a ||| 2 ^ b)).testBit a = true := by
        rw [Nat.testBit_and, h, Nat.testBit_or, Nat.testBit_two_pow, decide_eq_true rfl]
        rfl
      rw [e, Nat.zero_testBit] at h2
      cases h2
    · intro h
      have h2 : (s &&& (2 ^ a ||| 2 ^ b)).testBit b = true := by
        rw [Nat.testBit_and, h, Nat.testBit_or, Nat.testBit_two_pow (n := b), decide_eq_true rfl, Bool.or_true]
        rfl
      rw [e, Nat.zero_testBit] at h2
      cases h2
  · rintro ⟨h1, h2⟩
    apply tb_eq0
    intro i
    cases c : (s &&& (2 ^ a ||| 2 ^ b)).testBit i
    · rfl
    · rw [Nat.testBit_and, Nat.testBit_or, Nat.testBit_two_pow, Nat.testBit_two_pow, Bool.and_eq_true, Bool.or_eq_true, decide_eq_true_eq, decide_eq_true_eq] at c
      rcases c with ⟨c1, rfl | rfl⟩
      · exact absurd c1 h1
      · exact absurd c1 h2
theorem PB_base {A : Nat → Nat} {a b : Nat} (ha : a < 8) (hb : b < 8) (hab : a ≠ b) (hn : ¬ bes A a / 2 ^ b % 2 = 1) : PB A a b (cmS (2 ^ a ||| 2 ^ b)) := by
  have k1 : ∀ i, i < 8 → ((2 ^ a ||| 2 ^ b).testBit i = true ↔ i = a ∨ i = b) := by
    intro i hi
    rw [Nat.testBit_or, Nat.testBit_two_pow, Nat.testBit_two_pow, Bool.or_eq_true, decide_eq_true_eq, decide_eq_true_eq]
    omega
  refine ⟨en_iff.mpr ⟨?_, ?_⟩, ?_⟩
  · rw [tb_iff, cm_b ha, (k1 a ha).mpr (Or.inl rfl)]
    decide
  · rw [tb_iff, cm_b hb, (k1 b hb).mpr (Or.inr rfl)]
    decide
  · rw [tb_iff]
    have hm : ∀ i, i < 8 → ((cmS (cmS (2 ^ a ||| 2 ^ b))).testBit i = true ↔ i = a ∨ i = b) := by
      intro i hi
      rw [cm_b hi, cm_b hi, Bool.not_not]
      exact k1 i hi
    have key : ∀ n c, (bl A (cmS (cmS (2 ^ a ||| 2 ^ b))) a n).testBit c = true → c = a := by
      intro n
      induction n with
      | zero =>
        intro c h
        exact (bl_0.mp h).symm
      | succ n ih =>
        intro c h
        rcases bl_s.mp h with h | ⟨h1, h, h2, h3, h4⟩
        · exact ih c h
        · have h5 := ih h h3
          subst h5
          have hc := tb_lt cm_lt h1
          rcases (hm c hc).mp h1 with h6 | h6
          · exact h6
          · rw [h6] at h4
            exact absurd (tb_iff.mpr h4) hn
    intro h
    exact hab (key 7 b h).symm
theorem PB_h0 {A : Nat → Nat} {a b t : Nat} (ht : t < 256) (h : PB A a b t) : pcN t < pcN (cmS (2 ^ a ||| 2 ^ b)) ∨ t = cmS (2 ^ a ||| 2 ^ b) := by
  obtain ⟨h1, h2⟩ := en_iff.mp h.1
  apply sub_pc ht cm_lt
  intro i hi
  have i8 := tb_lt ht hi
  rw [cm_b i8, Nat.testBit_or, Nat.testBit_two_pow, Nat.testBit_two_pow]
  have c1 : ¬ a = i := fun e => by
    subst e
    exact h1 (tb_iff.mpr hi)
  have c2 : ¬ b = i := fun e => by
    subst e
    exact h2 (tb_iff.mpr hi)
  rw [decide_eq_false c1, decide_eq_false c2]
  rfl
section Block
variable {TX : (Nat → Nat → Int32) → Nat → Prop} {sc : Sc} {d : Nat}
theorem sp_setB {I : Nat → Nat → Int32} {J : Nat → Nat → Int64} {T : Option Nat} {A : Nat → Nat} {a b : Nat} (ha : a < 8) (hb : b < 8) (hab : a ≠ b) (hn : ¬ bes A a / 2 ^ b % 2 = 1) (eB : BsC I A) : ∀ Q, Rn sc (d + 2) 80 0 [some (.ref 72), some (.int (nI a)), some (.int (nI b)), none, none, none, none] [] (K0, I, J, R1 T) Q = Q (some (.int (nI (upN (PB A a b) (cmS (2 ^ a ||| 2 ^ b)) 256)))) (K0, I, J, R1 T) := by
  intro Q
  have pa := p2_lt ha
  have pb := p2_lt hb
  obtain ⟨u, -, h3⟩ := iterE (St := Option Value) (fun (_ : Nat) _ => True) (fun s u => Rn sc (d + 2) 80 16 [some (.ref 72), some (.int (nI a)), some (.int (nI b)), some (.int (nI (2 ^ a ||| 2 ^ b))), some (.int (nI (upN (PB A a b) (cmS (2 ^ a ||| 2 ^ b)) s))), some (.int (nI s)), u] [] (K0, I, J, R1 T) Q) 256 (by
    rintro s u hs -
    obtain ⟨h1, h2, -, -⟩ := up_inv (P := PB A a b) cm_lt (PB_base ha hb hab hn) (fun t ht h => PB_h0 ht h) s (by omega)
    have ls : ¬ 256 ≤ s := by omega
    have l1 := pc_8 _ hs
    have l2 := pc_8 _ h2
    have le : s &&& (2 ^ a ||| 2 ^ b) < 256 := Nat.lt_of_le_of_lt Nat.and_le_left hs
    have bs := fun Q => sp_bitCount (Q := Q) (sc := sc) (d := d + 1) (I := I) (J := J) (T := T) hs
    have bb := fun Q => sp_bitCount (Q := Q) (sc := sc) (d := d + 1) (I := I) (J := J) (T := T) h2
    have fl := fun Q => sp_flood (Q := Q) (sc := sc) (d := d) (J := J) (T := T) ha (show cmS s < 256 from cm_lt) eB
    unfold cmS at fl
    have lf := bl_lt (A := A) ha (show cmS s < 256 from cm_lt) 7
    have lf' : bl A (255 &&& (s ^^^ 4294967295)) a 7 < 256 := lf
    by_cases c1 : pcN s < pcN (upN (PB A a b) (cmS (2 ^ a ||| 2 ^ b)) s)
    · have c1' : ¬ pcN (upN (PB A a b) (cmS (2 ^ a ||| 2 ^ b)) s) ≤ pcN s := by omega
      refine ⟨some (.int (nI 1)), trivial, ?_⟩
      show Rn _ _ _ _ _ _ _ _ = Rn _ _ _ _ _ _ _ _
      rw [x80_16, upN]
      by_cases c2 : s &&& (2 ^ a ||| 2 ^ b) = 0
      · by_cases c3 : bl A (255 &&& (s ^^^ 4294967295)) a 7 / 2 ^ b % 2 = 1
        · rw [if_neg (fun h => h.2.2 c3)]
          simp (disch := first | assumption | omega | decide) only [x80_0, x80_1, x80_2, x80_3, x80_4, x80_5, x80_6, x80_7, x80_8, x80_9, x80_10, x80_11, x80_12, x80_13, x80_14, x80_15, x80_17, x80_18, x80_19, x80_20, x80_21, x80_22, x80_23, x80_24, x80_25, x80_26, x80_27, x80_28, x80_29, x80_30, x80_31, x80_32, x80_33, x80_34, x80_35, x80_36, x80_37, x80_38, x80_39, x80_40, x80_41, x80_42, x80_43, x80_44, x80_45, x80_46, x80_47, x80_48, x80_49, x80_50, x80_51, x80_52, ↓reduceIte, Option.toList, List.nil_append, List.cons_append, nI_add, pk_mul, n_and, n_or, n_xor, nI_leI, nI_ltI, nI_eq, n_z, uI_s, uI_n, bI_n0, bI_n1, bT, bF, if_true, if_false, not_true, not_false_eq_true, pk_div, pk_rem, Nat.reduceEqDiff, Nat.reduceLeDiff, Nat.reduceLT, Nat.reduceAdd, Nat.reduceMul, Nat.reduceSub, Nat.not_lt_zero, Nat.zero_le, reduceCtorEq, ite_self, n_rem, and_self, and_true, true_and, and_false, false_and, ls, bs, bb, c1', c2, ng_I, fl, n_bit, c3]
        · have c3' : bl A (255 &&& (s ^^^ 4294967295)) a 7 / 2 ^ b % 2 = 0 := by omega
          rw [if_pos ⟨c1, c2, c3⟩]
          simp (disch := first | assumption | omega | decide) only [x80_0, x80_1, x80_2, x80_3, x80_4, x80_5, x80_6, x80_7, x80_8, x80_9, x80_10, x80_11, x80_12, x80_13, x80_14, x80_15, x80_17, x80_18, x80_19, x80_20, x80_21, x80_22, x80_23, x80_24, x80_25, x80_26, x80_27, x80_28, x80_29, x80_30, x80_31, x80_32, x80_33, x80_34, x80_35, x80_36, x80_37, x80_38, x80_39, x80_40, x80_41, x80_42, x80_43, x80_44, x80_45, x80_46, x80_47, x80_48, x80_49, x80_50, x80_51, x80_52, ↓reduceIte, Option.toList, List.nil_append, List.cons_append, nI_add, pk_mul, n_and, n_or, n_xor, nI_leI, nI_ltI, nI_eq, n_z, uI_s, uI_n, bI_n0, bI_n1, bT, bF, if_true, if_false, not_true, not_false_eq_true, pk_div, pk_rem, Nat.reduceEqDiff, Nat.reduceLeDiff, Nat.reduceLT, Nat.reduceAdd, Nat.reduceMul, Nat.reduceSub, Nat.not_lt_zero, Nat.zero_le, reduceCtorEq, ite_self, n_rem, and_self, and_true, true_and, and_false, false_and, ls, bs, bb, c1', c2, ng_I, fl, n_bit, c3']
      · rw [if_neg (fun h => c2 h.2.1)]
        simp (disch := first | assumption | omega | decide) only [x80_0, x80_1, x80_2, x80_3, x80_4, x80_5, x80_6, x80_7, x80_8, x80_9, x80_10, x80_11, x80_12, x80_13, x80_14, x80_15, x80_17, x80_18, x80_19, x80_20, x80_21, x80_22, x80_23, x80_24, x80_25, x80_26, x80_27, x80_28, x80_29, x80_30, x80_31, x80_32, x80_33, x80_34, x80_35, x80_36, x80_37, x80_38, x80_39, x80_40, x80_41, x80_42, x80_43, x80_44, x80_45, x80_46, x80_47, x80_48, x80_49, x80_50, x80_51, x80_52, ↓reduceIte, Option.toList, List.nil_append, List.cons_append, nI_add, pk_mul, n_and, n_or, n_xor, nI_leI, nI_ltI, nI_eq, n_z, uI_s, uI_n, bI_n0, bI_n1, bT, bF, if_true, if_false, not_true, not_false_eq_true, pk_div, pk_rem, Nat.reduceEqDiff, Nat.reduceLeDiff, Nat.reduceLT, Nat.reduceAdd, Nat.reduceMul, Nat.reduceSub, Nat.not_lt_zero, Nat.zero_le, reduceCtorEq, ite_self, n_rem, and_self, and_true, true_and, and_false, false_and, ls, bs, bb, c1', c2]
    · have c1' : pcN (upN (PB A a b) (cmS (2 ^ a ||| 2 ^ b)) s) ≤ pcN s := by omega
      refine ⟨some (.int (nI 0)), trivial, ?_⟩
      show Rn _ _ _ _ _ _ _ _ = Rn _ _ _ _ _ _ _ _
      rw [x80_16, upN, if_neg (fun h => c1 h.1)]
      simp (disch := first | assumption | omega | decide) only [x80_0, x80_1, x80_2, x80_3, x80_4, x80_5, x80_6, x80_7, x80_8, x80_9, x80_10, x80_11, x80_12, x80_13, x80_14, x80_15, x80_17, x80_18, x80_19, x80_20, x80_21, x80_22, x80_23, x80_24, x80_25, x80_26, x80_27, x80_28, x80_29, x80_30, x80_31, x80_32, x80_33, x80_34, x80_35, x80_36, x80_37, x80_38, x80_39, x80_40, x80_41, x80_42, x80_43, x80_44, x80_45, x80_46, x80_47, x80_48, x80_49, x80_50, x80_51, x80_52, ↓reduceIte, Option.toList, List.nil_append, List.cons_append, nI_add, pk_mul, n_and, n_or, n_xor, nI_leI, nI_ltI, nI_eq, n_z, uI_s, uI_n, bI_n0, bI_n1, bT, bF, if_true, if_false, not_true, not_false_eq_true, pk_div, pk_rem, Nat.reduceEqDiff, Nat.reduceLeDiff, Nat.reduceLT, Nat.reduceAdd, Nat.reduceMul, Nat.reduceSub, Nat.not_lt_zero, Nat.zero_le, reduceCtorEq, ite_self, n_rem, and_self, and_true, true_and, and_false, false_and, ls, bs, bb, c1']) none trivial
  have e0 : 255 &&& ((2 ^ a ||| 2 ^ b) ^^^ 4294967295) = upN (PB A a b) (cmS (2 ^ a ||| 2 ^ b)) 0 := rfl
  simp (disch := first | assumption | omega | decide) only [x80_0, x80_1, x80_2, x80_3, x80_4, x80_5, x80_6, x80_7, x80_8, x80_9, x80_10, x80_11, x80_12, x80_13, x80_14, x80_15, ↓reduceIte, Option.toList, List.nil_append, List.cons_append, nI_add, pk_mul, n_and, n_or, n_xor, nI_leI, nI_ltI, nI_eq, n_z, uI_s, uI_n, bI_n0, bI_n1, bT, bF, if_true, if_false, not_true, not_false_eq_true, pk_div, pk_rem, Nat.reduceEqDiff, Nat.reduceLeDiff, Nat.reduceLT, Nat.reduceAdd, Nat.reduceMul, Nat.reduceSub, Nat.not_lt_zero, Nat.zero_le, reduceCtorEq, ite_self, n_rem, and_self, and_true, true_and, and_false, false_and, n_one, ng_I, e0]
  refine Eq.trans h3 ?_
  show Rn _ _ _ _ _ _ _ _ = _
  rw [x80_16]
  simp (disch := first | assumption | omega | decide) only [x80_17, x80_18, x80_51, x80_52, ↓reduceIte, Option.toList, List.nil_append, List.cons_append, nI_add, pk_mul, n_and, n_or, n_xor, nI_leI, nI_ltI, nI_eq, n_z, uI_s, uI_n, bI_n0, bI_n1, bT, bF, if_true, if_false, not_true, not_false_eq_true, pk_div, pk_rem, Nat.reduceEqDiff, Nat.reduceLeDiff, Nat.reduceLT, Nat.reduceAdd, Nat.reduceMul, Nat.reduceSub, Nat.not_lt_zero, Nat.zero_le, reduceCtorEq, ite_self, n_rem, and_self, and_true, true_and, and_false, false_and, Nat.le_refl]
theorem bM_loop {I : Nat → Nat → Int32} {J : Nat → Nat → Int64} {T : Option Nat} {A : Nat → Nat} {a b z : Nat} (ha : a < 8) (hb : b < 8) (w : Wf A) (mA : AtM I 90 A) : ∃ I', (∀ c k, c ≠ 99 → I' c k = I c k) ∧ ∀ Q, Rn sc (d + 2) 285 21 [some (.ref 89), some (.int (nI a)), some (.int (nI b)), some (.int (nI z)), some (.int (-1)), some (.int (nI 255))] [] (K0, I, J, R1 T) Q = Rn sc (d + 2) 285 21 [some (.ref 89), some (.int (nI a)), some (.int (nI b)), some (.int (nI z)), some (.int (enB (dnN (PB A a b) 0 256))), some (.int (-1))] [] (K0, I', J, R1 T) Q := by
  obtain ⟨I', f', h3⟩ := iterE (fun (_ : Nat) I' => ∀ c k, c ≠ 99 → I' c k = I c k) (fun k I' => fun Q => Rn sc (d + 2) 285 21 [some (.ref 89), some (.int (nI a)), some (.int (nI b)), some (.int (nI z)), some (.int (enB (dnN (PB A a b) 0 k))), some (.int (dwI k))] [] (K0, I', J, R1 T) Q) 256 (by
    rintro k I1 hk f1
    obtain ⟨s, es⟩ : ∃ s, s = 255 - k := ⟨_, rfl⟩
    have hs : s < 256 := by omega
    have e1 := dwI_s (k := k) (by omega)
    rw [← es] at e1
    have l1 := pc_8 _ hs
    obtain ⟨I2, k2, f2, q2⟩ := sp_lay (sc := sc) (d := d) (J := J) (T := T) ha (show cmS s < 256 from cm_lt) w (AtM_c mA (fun k => f1 _ _ (by omega)))
    unfold cmS at q2
    have lf : bl A (255 &&& (s ^^^ 4294967295)) a 7 < 256 := bl_lt (A := A) ha (show cmS s < 256 from cm_lt) 7
    have inv := dn_inv (P := PB A a b) (i0 := 0) (Or.inl rfl) k (by omega)
    obtain ⟨e, ee⟩ : ∃ e, e = dnN (PB A a b) 0 k := ⟨_, rfl⟩
    have eS : dnN (PB A a b) 0 (k + 1) = if PB A a b s ∧ (e = 0 ∨ pcN s ≤ pcN (e - 1)) then s + 1 else e := by rw [dnN_s, ← es, ← ee]
    rw [← ee] at inv
    by_cases c1 : s / 2 ^ a % 2 = 1
    · refine ⟨I1, f1, funext fun Q => ?_⟩
      show Rn _ _ _ _ _ _ _ _ = Rn _ _ _ _ _ _ _ _
      rw [x285_21, eS, dwI_t (show k ≤ 255 by omega), ← es, if_neg (fun h => (en_iff.mp h.1.1).1 c1), ← ee]
      simp (disch := first | assumption | omega | decide) only [x285_0, x285_1, x285_2, x285_3, x285_4, x285_5, x285_6, x285_7, x285_8, x285_9, x285_10, x285_11, x285_12, x285_13, x285_14, x285_15, x285_16, x285_17, x285_18, x285_19, x285_20, x285_22, x285_23, x285_24, x285_25, x285_26, x285_27, x285_28, x285_29, x285_30, x285_31, x285_32, x285_33, x285_34, x285_35, x285_36, x285_37, x285_38, x285_39, x285_40, x285_41, x285_42, x285_43, x285_44, x285_45, x285_46, x285_47, x285_48, x285_49, x285_50, x285_51, x285_52, x285_53, x285_54, x285_55, x285_56, x285_57, x285_58, x285_59, x285_60, ↓reduceIte, Option.toList, List.nil_append, List.cons_append, nI_add, pk_mul, n_and, n_or, n_xor, nI_leI, nI_ltI, nI_eq, n_z, uI_s, uI_n, bI_n0, bI_n1, bT, bF, if_true, if_false, not_true, not_false_eq_true, pk_div, pk_rem, Nat.reduceEqDiff, Nat.reduceLeDiff, Nat.reduceLT, Nat.reduceAdd, Nat.reduceMul, Nat.reduceSub, Nat.not_lt_zero, Nat.zero_le, reduceCtorEq, ite_self, n_rem, and_self, and_true, true_and, and_false, false_and, sp_has, c1, e1]
    · by_cases c2 : s / 2 ^ b % 2 = 1
      · refine ⟨I1, f1, funext fun Q => ?_⟩
        show Rn _ _ _ _ _ _ _ _ = Rn _ _ _ _ _ _ _ _
        rw [x285_21, eS, dwI_t (show k ≤ 255 by omega), ← es, if_neg (fun h => (en_iff.mp h.1.1).2 c2), ← ee]
        simp (disch := first | assumption | omega | decide) only [x285_0, x285_1, x285_2, x285_3, x285_4, x285_5, x285_6, x285_7, x285_8, x285_9, x285_10, x285_11, x285_12, x285_13, x285_14, x285_15, x285_16, x285_17, x285_18, x285_19, x285_20, x285_22, x285_23, x285_24, x285_25, x285_26, x285_27, x285_28, x285_29, x285_30, x285_31, x285_32, x285_33, x285_34, x285_35, x285_36, x285_37, x285_38, x285_39, x285_40, x285_41, x285_42, x285_43, x285_44, x285_45, x285_46, x285_47, x285_48, x285_49, x285_50, x285_51, x285_52, x285_53, x285_54, x285_55, x285_56, x285_57, x285_58, x285_59, x285_60, ↓reduceIte, Option.toList, List.nil_append, List.cons_append, nI_add, pk_mul, n_and, n_or, n_xor, nI_leI, nI_ltI, nI_eq, n_z, uI_s, uI_n, bI_n0, bI_n1, bT, bF, if_true, if_false, not_true, not_false_eq_true, pk_div, pk_rem, Nat.reduceEqDiff, Nat.reduceLeDiff, Nat.reduceLT, Nat.reduceAdd, Nat.reduceMul, Nat.reduceSub, Nat.not_lt_zero, Nat.zero_le, reduceCtorEq, ite_self, n_rem, and_self, and_true, true_and, and_false, false_and, sp_has, c1, c2, e1]
      · have hE := en_iff.mpr ⟨c1, c2⟩
        rcases inv with ⟨i1, i2⟩ | ⟨y, i1, i2, i3, i4⟩
        · subst i1
          by_cases c3 : bl A (255 &&& (s ^^^ 4294967295)) a 7 / 2 ^ b % 2 = 1
          · refine ⟨I2, fun c k hc => (f2 c k hc).trans (f1 c k hc), funext fun Q => ?_⟩
            show Rn _ _ _ _ _ _ _ _ = Rn _ _ _ _ _ _ _ _
            rw [x285_21, eS, dwI_t (show k ≤ 255 by omega), ← es, if_neg (fun h => h.1.2 c3), ← ee, enB_0]
            simp (disch := first | assumption | omega | decide) only [x285_0, x285_1, x285_2, x285_3, x285_4, x285_5, x285_6, x285_7, x285_8, x285_9, x285_10, x285_11, x285_12, x285_13, x285_14, x285_15, x285_16, x285_17, x285_18, x285_19, x285_20, x285_22, x285_23, x285_24, x285_25, x285_26, x285_27, x285_28, x285_29, x285_30, x285_31, x285_32, x285_33, x285_34, x285_35, x285_36, x285_37, x285_38, x285_39, x285_40, x285_41, x285_42, x285_43, x285_44, x285_45, x285_46, x285_47, x285_48, x285_49, x285_50, x285_51, x285_52, x285_53, x285_54, x285_55, x285_56, x285_57, x285_58, x285_59, x285_60, ↓reduceIte, Option.toList, List.nil_append, List.cons_append, nI_add, pk_mul, n_and, n_or, n_xor, nI_leI, nI_ltI, nI_eq, n_z, uI_s, uI_n, bI_n0, bI_n1, bT, bF, if_true, if_false, not_true, not_false_eq_true, pk_div, pk_rem, Nat.reduceEqDiff, Nat.reduceLeDiff, Nat.reduceLT, Nat.reduceAdd, Nat.reduceMul, Nat.reduceSub, Nat.not_lt_zero, Nat.zero_le, reduceCtorEq, ite_self, n_rem, and_self, and_true, true_and, and_false, false_and, sp_has, c1, c2, ng_I, q2, c3, e1]
          · refine ⟨I2, fun c k hc => (f2 c k hc).trans (f1 c k hc), funext fun Q => ?_⟩
            show Rn _ _ _ _ _ _ _ _ = Rn _ _ _ _ _ _ _ _
            rw [x285_21, eS, dwI_t (show k ≤ 255 by omega), ← es, if_pos ⟨⟨hE, c3⟩, Or.inl rfl⟩, ← ee, enB_0, enB_s]
            simp (disch := first | assumption | omega | decide) only [x285_0, x285_1, x285_2, x285_3, x285_4, x285_5, x285_6, x285_7, x285_8, x285_9, x285_10, x285_11, x285_12, x285_13, x285_14, x285_15, x285_16, x285_17, x285_18, x285_19, x285_20, x285_22, x285_23, x285_24, x285_25, x285_26, x285_27, x285_28, x285_29, x285_30, x285_31, x285_32, x285_33, x285_34, x285_35, x285_36, x285_37, x285_38, x285_39, x285_40, x285_41, x285_42, x285_43, x285_44, x285_45, x285_46, x285_47, x285_48, x285_49, x285_50, x285_51, x285_52, x285_53, x285_54, x285_55, x285_56, x285_57, x285_58, x285_59, x285_60, ↓reduceIte, Option.toList, List.nil_append, List.cons_append, nI_add, pk_mul, n_and, n_or, n_xor, nI_leI, nI_ltI, nI_eq, n_z, uI_s, uI_n, bI_n0, bI_n1, bT, bF, if_true, if_false, not_true, not_false_eq_true, pk_div, pk_rem, Nat.reduceEqDiff, Nat.reduceLeDiff, Nat.reduceLT, Nat.reduceAdd, Nat.reduceMul, Nat.reduceSub, Nat.not_lt_zero, Nat.zero_le, reduceCtorEq, ite_self, n_rem, and_self, and_true, true_and, and_false, false_and, sp_has, c1, c2, ng_I, q2, c3, e1]
        · subst i1
          have l2 := pc_8 _ i2
          rw [Nat.add_sub_cancel] at eS
          by_cases c4 : pcN s ≤ pcN y
          · have c4' : ¬ pcN y < pcN s := by omega
            by_cases c3 : bl A (255 &&& (s ^^^ 4294967295)) a 7 / 2 ^ b % 2 = 1
            · refine ⟨I2, fun c k hc => (f2 c k hc).trans (f1 c k hc), funext fun Q => ?_⟩
              show Rn _ _ _ _ _ _ _ _ = Rn _ _ _ _ _ _ _ _
              rw [x285_21, eS, dwI_t (show k ≤ 255 by omega), ← es, if_neg (fun h => h.1.2 c3), ← ee, enB_s]
              simp (disch := first | assumption | omega | decide) only [x285_0, x285_1, x285_2, x285_3, x285_4, x285_5, x285_6, x285_7, x285_8, x285_9, x285_10, x285_11, x285_12, x285_13, x285_14, x285_15, x285_16, x285_17, x285_18, x285_19, x285_20, x285_22, x285_23, x285_24, x285_25, x285_26, x285_27, x285_28, x285_29, x285_30, x285_31, x285_32, x285_33, x285_34, x285_35, x285_36, x285_37, x285_38, x285_39, x285_40, x285_41, x285_42, x285_43, x285_44, x285_45, x285_46, x285_47, x285_48, x285_49, x285_50, x285_51, x285_52, x285_53, x285_54, x285_55, x285_56, x285_57, x285_58, x285_59, x285_60, ↓reduceIte, Option.toList, List.nil_append, List.cons_append, nI_add, pk_mul, n_and, n_or, n_xor, nI_leI, nI_ltI, nI_eq, n_z, uI_s, uI_n, bI_n0, bI_n1, bT, bF, if_true, if_false, not_true, not_false_eq_true, pk_div, pk_rem, Nat.reduceEqDiff, Nat.reduceLeDiff, Nat.reduceLT, Nat.reduceAdd, Nat.reduceMul, Nat.reduceSub, Nat.not_lt_zero, Nat.zero_le, reduceCtorEq, ite_self, n_rem, and_self, and_true, true_and, and_false, false_and, sp_has, c1, c2, n_m1e (show y < 2 ^ 31 by omega), sp_bits, c4', ng_I, q2, c3, e1]
            · refine ⟨I2, fun c k hc => (f2 c k hc).trans (f1 c k hc), funext fun Q => ?_⟩
              show Rn _ _ _ _ _ _ _ _ = Rn _ _ _ _ _ _ _ _
              rw [x285_21, eS, dwI_t (show k ≤ 255 by omega), ← es, if_pos ⟨⟨hE, c3⟩, Or.inr c4⟩, ← ee, enB_s, enB_s]
              simp (disch := first | assumption | omega | decide) only [x285_0, x285_1, x285_2, x285_3, x285_4, x285_5, x285_6, x285_7, x285_8, x285_9, x285_10, x285_11, x285_12, x285_13, x285_14, x285_15, x285_16, x285_17, x285_18, x285_19, x285_20, x285_22, x285_23, x285_24, x285_25, x285_26, x285_27, x285_28, x285_29, x285_30, x285_31, x285_32, x285_33, x285_34, x285_35, x285_36, x285_37, x285_38, x285_39, x285_40, x285_41, x285_42, x285_43, x285_44, x285_45, x285_46, x285_47, x285_48, x285_49, x285_50, x285_51, x285_52, x285_53, x285_54, x285_55, x285_56, x285_57, x285_58, x285_59, x285_60, ↓reduceIte, Option.toList, List.nil_append, List.cons_append, nI_add, pk_mul, n_and, n_or, n_xor, nI_leI, nI_ltI, nI_eq, n_z, uI_s, uI_n, bI_n0, bI_n1, bT, bF, if_true, if_false, not_true, not_false_eq_true, pk_div, pk_rem, Nat.reduceEqDiff, Nat.reduceLeDiff, Nat.reduceLT, Nat.reduceAdd, Nat.reduceMul, Nat.reduceSub, Nat.not_lt_zero, Nat.zero_le, reduceCtorEq, ite_self, n_rem, and_self, and_true, true_and, and_false, false_and, sp_has, c1, c2, n_m1e (show y < 2 ^ 31 by omega), sp_bits, c4', ng_I, q2, c3, e1]
          · have c4' : pcN y < pcN s := by omega
            refine ⟨I1, f1, funext fun Q => ?_⟩
            show Rn _ _ _ _ _ _ _ _ = Rn _ _ _ _ _ _ _ _
            rw [x285_21, eS, dwI_t (show k ≤ 255 by omega), ← es, if_neg (fun h => by have := h.2; omega), ← ee, enB_s]
            simp (disch := first | assumption | omega | decide) only [x285_0, x285_1, x285_2, x285_3, x285_4, x285_5, x285_6, x285_7, x285_8, x285_9, x285_10, x285_11, x285_12, x285_13, x285_14, x285_15, x285_16, x285_17, x285_18, x285_19, x285_20, x285_22, x285_23, x285_24, x285_25, x285_26, x285_27, x285_28, x285_29, x285_30, x285_31, x285_32, x285_33, x285_34, x285_35, x285_36, x285_37, x285_38, x285_39, x285_40, x285_41, x285_42, x285_43, x285_44, x285_45, x285_46, x285_47, x285_48, x285_49, x285_50, x285_51, x285_52, x285_53, x285_54, x285_55, x285_56, x285_57, x285_58, x285_59, x285_60, ↓reduceIte, Option.toList, List.nil_append, List.cons_append, nI_add, pk_mul, n_and, n_or, n_xor, nI_leI, nI_ltI, nI_eq, n_z, uI_s, uI_n, bI_n0, bI_n1, bT, bF, if_true, if_false, not_true, not_false_eq_true, pk_div, pk_rem, Nat.reduceEqDiff, Nat.reduceLeDiff, Nat.reduceLT, Nat.reduceAdd, Nat.reduceMul, Nat.reduceSub, Nat.not_lt_zero, Nat.zero_le, reduceCtorEq, ite_self, n_rem, and_self, and_true, true_and, and_false, false_and, sp_has, c1, c2, n_m1e (show y < 2 ^ 31 by omega), sp_bits, c4', e1]) I (fun _ _ _ => rfl)
  exact ⟨I', f', fun Q => congrFun h3 Q⟩
theorem jt_block {x y : Int32} {z : Nat} (hz : z < 2) : Jt TX sc (d + 3) 144 285 [some (.ref 0), some (.int x), some (.int y), some (.int (nI z)), none] [some (.ref 89), some (.int x), some (.int y), some (.int (nI z)), none, none] := by
  intro A B M w _
  have w' := w
  obtain ⟨wA, wB, wt⟩ := w
  have hz' : z = 0 ∨ z = 1 := by omega
  by_cases hx : inR x 8
  · obtain ⟨a, ha, rfl⟩ := hx
    by_cases hy : inR y 8
    · obtain ⟨b, hb, rfl⟩ := hy
      have la : bes A a < 256 := bes_lt wA
      by_cases hab : a = b
      · refine jtR w' (-1) ?_ ?_ <;> intro I J T Q hI
        · simp (disch := first | assumption | omega | decide) only [x144_0, x144_1, x144_2, x144_3, x144_4, x144_5, x144_6, x144_7, x144_8, x144_9, x144_10, x144_11, x144_12, x144_13, x144_14, x144_15, x144_16, x144_17, x144_18, x144_19, x144_20, x144_21, x144_22, x144_23, x144_24, x144_25, x144_26, x144_27, x144_28, x144_29, x144_30, x144_31, x144_32, x144_33, x144_34, ↓reduceIte, Option.toList, List.nil_append, List.cons_append, nI_add, pk_mul, n_and, n_or, n_xor, nI_leI, nI_ltI, nI_eq, n_z, uI_s, uI_n, bI_n0, bI_n1, bT, bF, if_true, if_false, not_true, not_false_eq_true, pk_div, pk_rem, Nat.reduceEqDiff, Nat.reduceLeDiff, Nat.reduceLT, Nat.reduceAdd, Nat.reduceMul, Nat.reduceSub, Nat.not_lt_zero, Nat.zero_le, reduceCtorEq, ite_self, n_rem, and_self, and_true, true_and, and_false, false_and, sp_houC_t, hab]
        · simp (disch := first | assumption | omega | decide) only [x285_0, x285_1, x285_2, x285_3, x285_4, x285_5, x285_6, x285_7, x285_8, x285_9, x285_10, x285_11, x285_12, x285_13, x285_14, x285_15, x285_16, ↓reduceIte, Option.toList, List.nil_append, List.cons_append, nI_add, pk_mul, n_and, n_or, n_xor, nI_leI, nI_ltI, nI_eq, n_z, uI_s, uI_n, bI_n0, bI_n1, bT, bF, if_true, if_false, not_true, not_false_eq_true, pk_div, pk_rem, Nat.reduceEqDiff, Nat.reduceLeDiff, Nat.reduceLT, Nat.reduceAdd, Nat.reduceMul, Nat.reduceSub, Nat.not_lt_zero, Nat.zero_le, reduceCtorEq, ite_self, n_rem, and_self, and_true, true_and, and_false, false_and, sp_houM_t, hab]
      · by_cases hn : bes A a / 2 ^ b % 2 = 1
        · refine jtR w' (-1) ?_ ?_ <;> intro I J T Q hI
          · simp (disch := first | assumption | omega | decide) only [x144_0, x144_1, x144_2, x144_3, x144_4, x144_5, x144_6, x144_7, x144_8, x144_9, x144_10, x144_11, x144_12, x144_13, x144_14, x144_15, x144_16, x144_17, x144_18, x144_19, x144_20, x144_21, x144_22, x144_23, x144_24, x144_25, x144_26, x144_27, x144_28, x144_29, x144_30, x144_31, x144_32, x144_33, x144_34, ↓reduceIte, Option.toList, List.nil_append, List.cons_append, nI_add, pk_mul, n_and, n_or, n_xor, nI_leI, nI_ltI, nI_eq, n_z, uI_s, uI_n, bI_n0, bI_n1, bT, bF, if_true, if_false, not_true, not_false_eq_true, pk_div, pk_rem, Nat.reduceEqDiff, Nat.reduceLeDiff, Nat.reduceLT, Nat.reduceAdd, Nat.reduceMul, Nat.reduceSub, Nat.not_lt_zero, Nat.zero_le, reduceCtorEq, ite_self, n_rem, and_self, and_true, true_and, and_false, false_and, sp_houC_t, hab, tw_beside hI.1 ha, n_bit, hn]
          · simp (disch := first | assumption | omega | decide) only [x285_0, x285_1, x285_2, x285_3, x285_4, x285_5, x285_6, x285_7, x285_8, x285_9, x285_10, x285_11, x285_12, x285_13, x285_14, x285_15, x285_16, ↓reduceIte, Option.toList, List.nil_append, List.cons_append, nI_add, pk_mul, n_and, n_or, n_xor, nI_leI, nI_ltI, nI_eq, n_z, uI_s, uI_n, bI_n0, bI_n1, bT, bF, if_true, if_false, not_true, not_false_eq_true, pk_div, pk_rem, Nat.reduceEqDiff, Nat.reduceLeDiff, Nat.reduceLT, Nat.reduceAdd, Nat.reduceMul, Nat.reduceSub, Nat.not_lt_zero, Nat.zero_le, reduceCtorEq, ite_self, n_rem, and_self, and_true, true_and, and_false, false_and, sp_houM_t, hab, sp_besM ha wA hI.1, sp_has, hn]
        · obtain ⟨h1, h2, -, -⟩ := up_inv (P := PB A a b) cm_lt (PB_base ha hb hab hn) (fun t ht h => PB_h0 ht h) 256 (by omega)
          have eq := ud_eq (P := PB A a b) (i0 := 0) cm_lt (PB_base ha hb hab hn) (fun t ht h => PB_h0 ht h) (Or.inl rfl)
          obtain ⟨v, ev⟩ : ∃ v, v = upN (PB A a b) (cmS (2 ^ a ||| 2 ^ b)) 256 := ⟨_, rfl⟩
          rw [← ev] at h2 eq
          refine ⟨if z = 0 then nI v else nI (pcN v), A, B, w', Nat.le_refl _, ?_, ?_⟩
          · intro I J T cI _
            have sb := sp_setB (sc := sc) (d := d) (J := J) (T := T) ha hb hab hn (BsC_of cI)
            rw [← ev] at sb
            refine ⟨I, fun _ _ _ => rfl, cI, fun Q => ?_⟩
            rcases hz' with rfl | rfl
            · rw [if_pos rfl]
              simp (disch := first | assumption | omega | decide) only [x144_0, x144_1, x144_2, x144_3, x144_4, x144_5, x144_6, x144_7, x144_8, x144_9, x144_10, x144_11, x144_12, x144_13, x144_14, x144_15, x144_16, x144_17, x144_18, x144_19, x144_20, x144_21, x144_22, x144_23, x144_24, x144_25, x144_26, x144_27, x144_28, x144_29, x144_30, x144_31, x144_32, x144_33, x144_34, ↓reduceIte, Option.toList, List.nil_append, List.cons_append, nI_add, pk_mul, n_and, n_or, n_xor, nI_leI, nI_ltI, nI_eq, n_z, uI_s, uI_n, bI_n0, bI_n1, bT, bF, if_true, if_false, not_true, not_false_eq_true, pk_div, pk_rem, Nat.reduceEqDiff, Nat.reduceLeDiff, Nat.reduceLT, Nat.reduceAdd, Nat.reduceMul, Nat.reduceSub, Nat.not_lt_zero, Nat.zero_le, reduceCtorEq, ite_self, n_rem, and_self, and_true, true_and, and_false, false_and, sp_houC_t, hab, tw_beside cI.1 ha, n_bit, hn, sb]
            · rw [if_neg (by decide)]
              simp (disch := first | assumption | omega | decide) only [x144_0, x144_1, x144_2, x144_3, x144_4, x144_5, x144_6, x144_7, x144_8, x144_9, x144_10, x144_11, x144_12, x144_13, x144_14, x144_15, x144_16, x144_17, x144_18, x144_19, x144_20, x144_21, x144_22, x144_23, x144_24, x144_25, x144_26, x144_27, x144_28, x144_29, x144_30, x144_31, x144_32, x144_33, x144_34, ↓reduceIte, Option.toList, List.nil_append, List.cons_append, nI_add, pk_mul, n_and, n_or, n_xor, nI_leI, nI_ltI, nI_eq, n_z, uI_s, uI_n, bI_n0, bI_n1, bT, bF, if_true, if_false, not_true, not_false_eq_true, pk_div, pk_rem, Nat.reduceEqDiff, Nat.reduceLeDiff, Nat.reduceLT, Nat.reduceAdd, Nat.reduceMul, Nat.reduceSub, Nat.not_lt_zero, Nat.zero_le, reduceCtorEq, ite_self, n_rem, and_self, and_true, true_and, and_false, false_and, sp_houC_t, hab, tw_beside cI.1 ha, n_bit, hn, sb, sp_bitCount]
          · intro I J T mI _
            obtain ⟨I1, f1, q1⟩ := bM_loop (sc := sc) (d := d + 1) (J := J) (T := T) (z := z) ha hb wA mI.1
            rw [eq, enB_s] at q1
            refine ⟨I1, J, ⟨fun c k hc => f1 c k (by omega), fun k hk => f1 _ _ (by omega)⟩, MI_c mI (fun c k hc => f1 c k (by omega)) (f1 _ _ (by omega)), fun Q => ?_⟩
            simp (disch := first | assumption | omega | decide) only [x285_0, x285_1, x285_2, x285_3, x285_4, x285_5, x285_6, x285_7, x285_8, x285_9, x285_10, x285_11, x285_12, x285_13, x285_14, x285_15, x285_16, x285_17, x285_18, x285_19, x285_20, ↓reduceIte, Option.toList, List.nil_append, List.cons_append, nI_add, pk_mul, n_and, n_or, n_xor, nI_leI, nI_ltI, nI_eq, n_z, uI_s, uI_n, bI_n0, bI_n1, bT, bF, if_true, if_false, not_true, not_false_eq_true, pk_div, pk_rem, Nat.reduceEqDiff, Nat.reduceLeDiff, Nat.reduceLT, Nat.reduceAdd, Nat.reduceMul, Nat.reduceSub, Nat.not_lt_zero, Nat.zero_le, reduceCtorEq, ite_self, n_rem, and_self, and_true, true_and, and_false, false_and, sp_houM_t, hab, sp_besM ha wA mI.1, sp_has, hn, q1]
            rw [x285_21]
            rcases hz' with rfl | rfl
            · rw [if_pos rfl]
              simp (disch := first | assumption | omega | decide) only [x285_22, x285_54, x285_55, x285_56, x285_57, x285_58, x285_59, x285_60, ↓reduceIte, Option.toList, List.nil_append, List.cons_append, nI_add, pk_mul, n_and, n_or, n_xor, nI_leI, nI_ltI, nI_eq, n_z, uI_s, uI_n, bI_n0, bI_n1, bT, bF, if_true, if_false, not_true, not_false_eq_true, pk_div, pk_rem, Nat.reduceEqDiff, Nat.reduceLeDiff, Nat.reduceLT, Nat.reduceAdd, Nat.reduceMul, Nat.reduceSub, Nat.not_lt_zero, Nat.zero_le, reduceCtorEq, ite_self, n_rem, and_self, and_true, true_and, and_false, false_and, show ((-1 : Int32) < nI 0) = True from eq_true (by decide)]
            · rw [if_neg (by decide)]
              simp (disch := first | assumption | omega | decide) only [x285_22, x285_54, x285_55, x285_56, x285_57, x285_58, x285_59, x285_60, ↓reduceIte, Option.toList, List.nil_append, List.cons_append, nI_add, pk_mul, n_and, n_or, n_xor, nI_leI, nI_ltI, nI_eq, n_z, uI_s, uI_n, bI_n0, bI_n1, bT, bF, if_true, if_false, not_true, not_false_eq_true, pk_div, pk_rem, Nat.reduceEqDiff, Nat.reduceLeDiff, Nat.reduceLT, Nat.reduceAdd, Nat.reduceMul, Nat.reduceSub, Nat.not_lt_zero, Nat.zero_le, reduceCtorEq, ite_self, n_rem, and_self, and_true, true_and, and_false, false_and, show ((-1 : Int32) < nI 0) = True from eq_true (by decide), sp_bits]
    · refine jtR w' (-1) ?_ ?_ <;> intro I J T Q hI
      · simp (disch := first | assumption | omega | decide) only [x144_0, x144_1, x144_2, x144_3, x144_4, x144_5, x144_6, x144_7, x144_8, x144_9, x144_10, x144_11, x144_12, x144_13, x144_14, x144_15, x144_16, x144_17, x144_18, x144_19, x144_20, x144_21, x144_22, x144_23, x144_24, x144_25, x144_26, x144_27, x144_28, x144_29, x144_30, x144_31, x144_32, x144_33, x144_34, ↓reduceIte, Option.toList, List.nil_append, List.cons_append, nI_add, pk_mul, n_and, n_or, n_xor, nI_leI, nI_ltI, nI_eq, n_z, uI_s, uI_n, bI_n0, bI_n1, bT, bF, if_true, if_false, not_true, not_false_eq_true, pk_div, pk_rem, Nat.reduceEqDiff, Nat.reduceLeDiff, Nat.reduceLT, Nat.reduceAdd, Nat.reduceMul, Nat.reduceSub, Nat.not_lt_zero, Nat.zero_le, reduceCtorEq, ite_self, n_rem, and_self, and_true, true_and, and_false, false_and, sp_houC_t, sp_houC_f hy]
      · simp (disch := first | assumption | omega | decide) only [x285_0, x285_1, x285_2, x285_3, x285_4, x285_5, x285_6, x285_7, x285_8, x285_9, x285_10, x285_11, x285_12, x285_13, x285_14, x285_15, x285_16, ↓reduceIte, Option.toList, List.nil_append, List.cons_append, nI_add, pk_mul, n_and, n_or, n_xor, nI_leI, nI_ltI, nI_eq, n_z, uI_s, uI_n, bI_n0, bI_n1, bT, bF, if_true, if_false, not_true, not_false_eq_true, pk_div, pk_rem, Nat.reduceEqDiff, Nat.reduceLeDiff, Nat.reduceLT, Nat.reduceAdd, Nat.reduceMul, Nat.reduceSub, Nat.not_lt_zero, Nat.zero_le, reduceCtorEq, ite_self, n_rem, and_self, and_true, true_and, and_false, false_and, sp_houM_t, sp_houM_f hy]
  · refine jtR w' (-1) ?_ ?_ <;> intro I J T Q hI
    · simp (disch := first | assumption | omega | decide) only [x144_0, x144_1, x144_2, x144_3, x144_4, x144_5, x144_6, x144_7, x144_8, x144_9, x144_10, x144_11, x144_12, x144_13, x144_14, x144_15, x144_16, x144_17, x144_18, x144_19, x144_20, x144_21, x144_22, x144_23, x144_24, x144_25, x144_26, x144_27, x144_28, x144_29, x144_30, x144_31, x144_32, x144_33, x144_34, ↓reduceIte, Option.toList, List.nil_append, List.cons_append, nI_add, pk_mul, n_and, n_or, n_xor, nI_leI, nI_ltI, nI_eq, n_z, uI_s, uI_n, bI_n0, bI_n1, bT, bF, if_true, if_false, not_true, not_false_eq_true, pk_div, pk_rem, Nat.reduceEqDiff, Nat.reduceLeDiff, Nat.reduceLT, Nat.reduceAdd, Nat.reduceMul, Nat.reduceSub, Nat.not_lt_zero, Nat.zero_le, reduceCtorEq, ite_self, n_rem, and_self, and_true, true_and, and_false, false_and, sp_houC_f hx]
    · simp (disch := first | assumption | omega | decide) only [x285_0, x285_1, x285_2, x285_3, x285_4, x285_5, x285_6, x285_7, x285_8, x285_9, x285_10, x285_11, x285_12, x285_13, x285_14, x285_15, x285_16, ↓reduceIte, Option.toList, List.nil_append, List.cons_append, nI_add, pk_mul, n_and, n_or, n_xor, nI_leI, nI_ltI, nI_eq, n_z, uI_s, uI_n, bI_n0, bI_n1, bT, bF, if_true, if_false, not_true, not_false_eq_true, pk_div, pk_rem, Nat.reduceEqDiff, Nat.reduceLeDiff, Nat.reduceLT, Nat.reduceAdd, Nat.reduceMul, Nat.reduceSub, Nat.not_lt_zero, Nat.zero_le, reduceCtorEq, ite_self, n_rem, and_self, and_true, true_and, and_false, false_and, sp_houM_f hx]
end Block
