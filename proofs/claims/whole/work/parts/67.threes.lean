/-! sums; threes -/
def sm (f : Nat → Nat) : Nat → Nat
  | 0 => 0
  | n + 1 => sm f n + f n
theorem sm_0 : ∀ n, sm (fun _ => 0) n = 0
  | 0 => rfl
  | n + 1 => by rw [sm, sm_0 n]
theorem sm_add {f g : Nat → Nat} : ∀ n, sm (fun i => f i + g i) n = sm f n + sm g n
  | 0 => rfl
  | n + 1 => by
    rw [sm, sm, sm, sm_add n]
    omega
theorem sm_swap {F : Nat → Nat → Nat} {m : Nat} : ∀ n, sm (fun i => sm (fun j => F i j) m) n = sm (fun j => sm (fun i => F i j) n) m
  | 0 => (sm_0 m).symm
  | n + 1 => by
    rw [sm, sm_swap n]
    exact (sm_add m).symm
theorem sm_c {f g : Nat → Nat} : ∀ n, (∀ i, i < n → f i = g i) → sm f n = sm g n
  | 0, _ => rfl
  | n + 1, h => by rw [sm, sm, sm_c n (fun i hi => h i (by omega)), h n (by omega)]
theorem sm_z {f : Nat → Nat} {n : Nat} : ∀ k, (∀ i, n ≤ i → i < n + k → f i = 0) → sm f (n + k) = sm f n
  | 0, _ => rfl
  | k + 1, h => by
    show sm f (n + k) + f (n + k) = _
    rw [sm_z k (fun i h1 h2 => h i h1 (by omega)), h (n + k) (by omega) (by omega), Nat.add_zero]
theorem sm_z8 {f : Nat → Nat} {n : Nat} (hn : n ≤ 8) (h : ∀ i, n ≤ i → i < 8 → f i = 0) : sm f 8 = sm f n := by
  have := sm_z (f := f) (n := n) (8 - n) (fun i h1 h2 => h i h1 (by omega))
  rwa [show n + (8 - n) = 8 by omega] at this
def t3 (A : Nat → Nat) (f g h : Nat) : Nat := if f < g ∧ g < h ∧ bes A h / 2 ^ g % 2 = 1 ∧ bes A h / 2 ^ f % 2 = 1 ∧ bes A g / 2 ^ f % 2 = 1 then 1 else 0
def u3 (A : Nat → Nat) (f g : Nat) : Nat := sm (fun h => t3 A f g h) 8
theorem u3_z {A : Nat → Nat} {f g : Nat} (h : ¬ f < g) : u3 A f g = 0 := by
  unfold u3
  exact (sm_c (f := fun h => t3 A f g h) (g := fun _ => 0) 8 (fun i _ => if_neg (fun e => h e.1))).trans (sm_0 8)
theorem pc_sh : ∀ x, x < 256 → ∀ k, k < 9 → pcN (x / 2 ^ k) = sm (fun c => if k ≤ c ∧ x / 2 ^ c % 2 = 1 then 1 else 0) 8 := by decide +kernel
theorem bes_s2 {A : Nat → Nat} {a b : Nat} : bes A a / 2 ^ b % 2 = 1 ↔ bes A b / 2 ^ a % 2 = 1 := by
  rw [tb_iff, tb_iff]
  exact ⟨bes_sym, bes_sym⟩
theorem u3_t {A : Nat → Nat} {a b : Nat} (w : Wf A) (hab : a < b) (hb : b < 8) (h : bes A a / 2 ^ b % 2 = 1) : pcN ((bes A a &&& bes A b) / 2 ^ (b + 1)) = u3 A a b := by
  have l : bes A a &&& bes A b < 256 := Nat.and_lt_two_pow (n := 8) _ (bes_lt w)
  rw [pc_sh _ l (b + 1) (by omega)]
  unfold u3
  apply sm_c
  intro c hc
  unfold t3
  have e : (b + 1 ≤ c ∧ (bes A a &&& bes A b) / 2 ^ c % 2 = 1) ↔ (a < b ∧ b < c ∧ bes A c / 2 ^ b % 2 = 1 ∧ bes A c / 2 ^ a % 2 = 1 ∧ bes A b / 2 ^ a % 2 = 1) := by
    rw [tb_iff, Nat.testBit_and, Bool.and_eq_true, ← tb_iff, ← tb_iff, bes_s2 (a := c) (b := b), bes_s2 (a := c) (b := a), bes_s2 (a := b) (b := a)]
    constructor
    · rintro ⟨h1, h2, h3⟩
      exact ⟨hab, by omega, h3, h2, h⟩
    · rintro ⟨h1, h2, h3, h4, h5⟩
      exact ⟨by omega, h4, h3⟩
  by_cases c1 : b + 1 ≤ c ∧ (bes A a &&& bes A b) / 2 ^ c % 2 = 1
  · rw [if_pos c1, if_pos (e.mp c1)]
  · rw [if_neg c1, if_neg (fun h => c1 (e.mpr h))]
theorem u3_f {A : Nat → Nat} {a b : Nat} (h : ¬ bes A a / 2 ^ b % 2 = 1) : u3 A a b = 0 := by
  unfold u3
  exact (sm_c (f := fun h => t3 A a b h) (g := fun _ => 0) 8 (fun i _ => if_neg (fun e => h (bes_s2.mp e.2.2.2.2)))).trans (sm_0 8)
section Threes
variable {TX : (Nat → Nat → Int32) → Nat → Prop} {sc : Sc} {d : Nat}
theorem sp_threesC {I : Nat → Nat → Int32} {J : Nat → Nat → Int64} {T : Option Nat} {A : Nat → Nat} (w : Wf A) (eB : BsC I A) : ∀ Q, Rn sc (d + 1) 68 0 [some (.ref 72), none, none, none, none] [] (K0, I, J, R1 T) Q = Q (some (.int (nI (sm (fun f => sm (fun g => u3 A f g) 8) 8)))) (K0, I, J, R1 T) := by
  intro Q
  obtain ⟨⟨v3, v4⟩, -, h3⟩ := iterE (St := Option Value × Option Value) (fun (_ : Nat) _ => True) (fun a u => Rn sc (d + 1) 68 4 [some (.ref 72), some (.int (nI (sm (fun f => sm (fun g => u3 A f g) 8) a))), some (.int (nI a)), u.1, u.2] [] (K0, I, J, R1 T) Q) 8 (by
    rintro a ⟨v3, v4⟩ ha -
    have la : ¬ 8 ≤ a := by omega
    obtain ⟨c, ec⟩ : ∃ c, c = sm (fun f => sm (fun g => u3 A f g) 8) a := ⟨_, rfl⟩
    have z1 : sm (fun g => u3 A a g) (a + 1) = 0 := by
      have := sm_z (f := fun g => u3 A a g) (n := 0) (a + 1) (fun i h1 h2 => u3_z (by omega))
      rw [Nat.zero_add] at this
      exact this
    obtain ⟨u, -, h4⟩ := iterE (St := Option Value) (fun (_ : Nat) _ => True) (fun j u => Rn sc (d + 1) 68 11 [some (.ref 72), some (.int (nI (c + sm (fun g => u3 A a g) (a + 1 + j)))), some (.int (nI a)), some (.int (nI (a + 1 + j))), u] [] (K0, I, J, R1 T) Q) (7 - a) (by
      rintro j u hj -
      obtain ⟨b, eb⟩ : ∃ b, b = a + 1 + j := ⟨_, rfl⟩
      have hb : b < 8 := by omega
      have lb : ¬ 8 ≤ b := by omega
      have jn := fun Q => sp_joins (Q := Q) (sc := sc) (d := d) (J := J) (T := T) ha hb w eB
      have e1 := eB a ha
      have e2 := eB b hb
      have l : bes A a &&& bes A b < 256 := Nat.and_lt_two_pow (n := 8) _ (bes_lt w)
      have l2 : (bes A a &&& bes A b) / 2 ^ (b + 1) < 256 := Nat.lt_of_le_of_lt (Nat.div_le_self _ _) l
      have sh : nI (bes A a &&& bes A b) >>> (nI (b + 1) &&& 31) = nI ((bes A a &&& bes A b) / 2 ^ (b + 1)) := n_shr (by omega) (by omega)
      have es : sm (fun g => u3 A a g) (b + 1) = sm (fun g => u3 A a g) b + u3 A a b := rfl
      by_cases cj : bes A a / 2 ^ b % 2 = 1
      · refine ⟨some (.int (nI (bes A a &&& bes A b))), trivial, ?_⟩
        show Rn _ _ _ _ _ _ _ _ = Rn _ _ _ _ _ _ _ _
        rw [show a + 1 + (j + 1) = b + 1 by omega, ← eb, x68_11, es, ← u3_t w (by omega) hb cj, ← Nat.add_assoc]
        simp (disch := first | assumption | omega | decide) only [x68_0, x68_1, x68_2, x68_3, x68_5, x68_6, x68_7, x68_8, x68_9, x68_10, x68_12, x68_13, x68_14, x68_15, x68_16, x68_17, x68_18, x68_19, x68_20, x68_21, x68_22, x68_23, x68_24, x68_25, x68_26, x68_27, x68_28, x68_29, x68_30, x68_31, x68_32, x68_33, x68_34, x68_35, x68_36, x68_37, x68_38, x68_39, x68_40, x68_41, x68_42, x68_43, x68_44, x68_45, ↓reduceIte, Option.toList, List.nil_append, List.cons_append, nI_add, pk_mul, n_and, n_or, n_xor, nI_leI, nI_ltI, nI_eq, n_z, uI_s, uI_n, bI_n0, bI_n1, bT, bF, if_true, if_false, not_true, not_false_eq_true, pk_div, pk_rem, Nat.reduceEqDiff, Nat.reduceLeDiff, Nat.reduceLT, Nat.reduceAdd, Nat.reduceMul, Nat.reduceSub, Nat.not_lt_zero, Nat.zero_le, reduceCtorEq, ite_self, n_rem, and_self, and_true, true_and, and_false, false_and, lb, jn, cj, e1, e2, sh, sp_bitCount]
      · refine ⟨u, trivial, ?_⟩
        show Rn _ _ _ _ _ _ _ _ = Rn _ _ _ _ _ _ _ _
        rw [show a + 1 + (j + 1) = b + 1 by omega, ← eb, x68_11, es, u3_f cj]
        simp (disch := first | assumption | omega | decide) only [x68_0, x68_1, x68_2, x68_3, x68_5, x68_6, x68_7, x68_8, x68_9, x68_10, x68_12, x68_13, x68_14, x68_15, x68_16, x68_17, x68_18, x68_19, x68_20, x68_21, x68_22, x68_23, x68_24, x68_25, x68_26, x68_27, x68_28, x68_29, x68_30, x68_31, x68_32, x68_33, x68_34, x68_35, x68_36, x68_37, x68_38, x68_39, x68_40, x68_41, x68_42, x68_43, x68_44, x68_45, ↓reduceIte, Option.toList, List.nil_append, List.cons_append, nI_add, pk_mul, n_and, n_or, n_xor, nI_leI, nI_ltI, nI_eq, n_z, uI_s, uI_n, bI_n0, bI_n1, bT, bF, if_true, if_false, not_true, not_false_eq_true, pk_div, pk_rem, Nat.reduceEqDiff, Nat.reduceLeDiff, Nat.reduceLT, Nat.reduceAdd, Nat.reduceMul, Nat.reduceSub, Nat.not_lt_zero, Nat.zero_le, reduceCtorEq, ite_self, n_rem, and_self, and_true, true_and, and_false, false_and, lb, jn, cj, Nat.add_zero]) v4 trivial
    refine ⟨(some (.int (nI 8)), u), trivial, ?_⟩
    show Rn _ _ _ _ _ _ _ _ = Rn _ _ _ _ _ _ _ _
    have h4 : Rn sc (d + 1) 68 11 [some (.ref 72), some (.int (nI (c + sm (fun g => u3 A a g) (a + 1 + 0)))), some (.int (nI a)), some (.int (nI (a + 1 + 0))), v4] [] (K0, I, J, R1 T) Q = Rn sc (d + 1) 68 11 [some (.ref 72), some (.int (nI (c + sm (fun g => u3 A a g) (a + 1 + (7 - a))))), some (.int (nI a)), some (.int (nI (a + 1 + (7 - a)))), u] [] (K0, I, J, R1 T) Q := h4
    simp only [Nat.add_zero, z1, show a + 1 + (7 - a) = 8 by omega] at h4
    rw [show sm (fun f => sm (fun g => u3 A f g) 8) (a + 1) = c + sm (fun g => u3 A a g) 8 by rw [ec]; rfl, ← ec, x68_4]
    simp (disch := first | assumption | omega | decide) only [x68_5, x68_6, x68_7, x68_8, x68_9, x68_10, ↓reduceIte, Option.toList, List.nil_append, List.cons_append, nI_add, pk_mul, n_and, n_or, n_xor, nI_leI, nI_ltI, nI_eq, n_z, uI_s, uI_n, bI_n0, bI_n1, bT, bF, if_true, if_false, not_true, not_false_eq_true, pk_div, pk_rem, Nat.reduceEqDiff, Nat.reduceLeDiff, Nat.reduceLT, Nat.reduceAdd, Nat.reduceMul, Nat.reduceSub, Nat.not_lt_zero, Nat.zero_le, reduceCtorEq, ite_self, n_rem, and_self, and_true, true_and, and_false, false_and, la]
    rw [h4, x68_11]
    simp (disch := first | assumption | omega | decide) only [x68_12, x68_13, x68_42, x68_43, ↓reduceIte, Option.toList, List.nil_append, List.cons_append, nI_add, pk_mul, n_and, n_or, n_xor, nI_leI, nI_ltI, nI_eq, n_z, uI_s, uI_n, bI_n0, bI_n1, bT, bF, if_true, if_false, not_true, not_false_eq_true, pk_div, pk_rem, Nat.reduceEqDiff, Nat.reduceLeDiff, Nat.reduceLT, Nat.reduceAdd, Nat.reduceMul, Nat.reduceSub, Nat.not_lt_zero, Nat.zero_le, reduceCtorEq, ite_self, n_rem, and_self, and_true, true_and, and_false, false_and, Nat.le_refl]) (none, none) trivial
  simp (disch := first | assumption | omega | decide) only [x68_0, x68_1, x68_2, x68_3, ↓reduceIte, Option.toList, List.nil_append, List.cons_append, nI_add, pk_mul, n_and, n_or, n_xor, nI_leI, nI_ltI, nI_eq, n_z, uI_s, uI_n, bI_n0, bI_n1, bT, bF, if_true, if_false, not_true, not_false_eq_true, pk_div, pk_rem, Nat.reduceEqDiff, Nat.reduceLeDiff, Nat.reduceLT, Nat.reduceAdd, Nat.reduceMul, Nat.reduceSub, Nat.not_lt_zero, Nat.zero_le, reduceCtorEq, ite_self, n_rem, and_self, and_true, true_and, and_false, false_and]
  refine Eq.trans h3 ?_
  show Rn _ _ _ _ _ _ _ _ = _
  rw [x68_4]
  simp (disch := first | assumption | omega | decide) only [x68_5, x68_6, x68_44, x68_45, ↓reduceIte, Option.toList, List.nil_append, List.cons_append, nI_add, pk_mul, n_and, n_or, n_xor, nI_leI, nI_ltI, nI_eq, n_z, uI_s, uI_n, bI_n0, bI_n1, bT, bF, if_true, if_false, not_true, not_false_eq_true, pk_div, pk_rem, Nat.reduceEqDiff, Nat.reduceLeDiff, Nat.reduceLT, Nat.reduceAdd, Nat.reduceMul, Nat.reduceSub, Nat.not_lt_zero, Nat.zero_le, reduceCtorEq, ite_self, n_rem, and_self, and_true, true_and, and_false, false_and, Nat.le_refl]
theorem sp_threesM {I : Nat → Nat → Int32} {J : Nat → Nat → Int64} {T : Option Nat} {A : Nat → Nat} (w : Wf A) (mA : AtM I 90 A) : ∀ Q, Rn sc (d + 1) 273 0 [some (.ref 89), none, none, none, none] [] (K0, I, J, R1 T) Q = Q (some (.int (nI (sm (fun h => sm (fun g => sm (fun f => t3 A f g h) 8) 8) 8)))) (K0, I, J, R1 T) := by
  intro Q
  have bm := fun Q x (hx : x < 8) => sp_besM (Q := Q) (sc := sc) (d := d) (J := J) (T := T) (u2 := none) (u3 := none) hx w mA
  obtain ⟨⟨v3, v4⟩, -, h3⟩ := iterE (St := Option Value × Option Value) (fun (_ : Nat) _ => True) (fun h u => Rn sc (d + 1) 273 4 [some (.ref 89), some (.int (nI (sm (fun h => sm (fun g => sm (fun f => t3 A f g h) 8) 8) h))), some (.int (nI h)), u.1, u.2] [] (K0, I, J, R1 T) Q) 8 (by
    rintro h ⟨v3, v4⟩ hh -
    have lh : ¬ 8 ≤ h := by omega
    have bh := fun Q => bm Q h hh
    have b1 : bes A h < 256 := bes_lt w
    obtain ⟨c, ec⟩ : ∃ c, c = sm (fun h => sm (fun g => sm (fun f => t3 A f g h) 8) 8) h := ⟨_, rfl⟩
    obtain ⟨u, -, h4⟩ := iterE (St := Option Value) (fun (_ : Nat) _ => True) (fun g u => Rn sc (d + 1) 273 9 [some (.ref 89), some (.int (nI (c + sm (fun g => sm (fun f => t3 A f g h) 8) g))), some (.int (nI h)), some (.int (nI g)), u] [] (K0, I, J, R1 T) Q) h (by
      rintro g u hg -
      have lg : ¬ h ≤ g := by omega
      have g8 : g < 8 := by omega
      have bg := fun Q => bm Q g g8
      have b2 : bes A g < 256 := bes_lt w
      obtain ⟨e, ee⟩ : ∃ e, e = c + sm (fun g => sm (fun f => t3 A f g h) 8) g := ⟨_, rfl⟩
      have hi := iter0 (fun f => Rn sc (d + 1) 273 14 [some (.ref 89), some (.int (nI (e + sm (fun f => t3 A f g h) f))), some (.int (nI h)), some (.int (nI g)), some (.int (nI f))] [] (K0, I, J, R1 T) Q) g (by
        intro f hf
        show Rn _ _ _ _ _ _ _ _ = Rn _ _ _ _ _ _ _ _
        have lf : ¬ g ≤ f := by omega
        have f8 : f < 8 := by omega
        rw [x273_14, show sm (fun f => t3 A f g h) (f + 1) = sm (fun f => t3 A f g h) f + t3 A f g h from rfl, ← Nat.add_assoc]
        by_cases c1 : bes A h / 2 ^ g % 2 = 1
        · by_cases c2 : bes A h / 2 ^ f % 2 = 1
          · by_cases c3 : bes A g / 2 ^ f % 2 = 1
            · rw [show t3 A f g h = 1 from if_pos ⟨hf, hg, c1, c2, c3⟩]
              simp (disch := first | assumption | omega | decide) only [x273_15, x273_16, x273_17, x273_18, x273_19, x273_20, x273_21, x273_22, x273_23, x273_24, x273_25, x273_26, x273_27, x273_28, x273_29, x273_30, x273_31, x273_32, x273_33, x273_34, x273_35, x273_36, x273_37, x273_38, x273_39, x273_40, x273_41, x273_42, ↓reduceIte, Option.toList, List.nil_append, List.cons_append, nI_add, pk_mul, n_and, n_or, n_xor, nI_leI, nI_ltI, nI_eq, n_z, uI_s, uI_n, bI_n0, bI_n1, bT, bF, if_true, if_false, not_true, not_false_eq_true, pk_div, pk_rem, Nat.reduceEqDiff, Nat.reduceLeDiff, Nat.reduceLT, Nat.reduceAdd, Nat.reduceMul, Nat.reduceSub, Nat.not_lt_zero, Nat.zero_le, reduceCtorEq, ite_self, n_rem, and_self, and_true, true_and, and_false, false_and, lf, bh, bg, sp_has, c1, c2, c3]
            · rw [show t3 A f g h = 0 from if_neg (fun h => c3 h.2.2.2.2)]
              simp (disch := first | assumption | omega | decide) only [x273_15, x273_16, x273_17, x273_18, x273_19, x273_20, x273_21, x273_22, x273_23, x273_24, x273_25, x273_26, x273_27, x273_28, x273_29, x273_30, x273_31, x273_32, x273_33, x273_34, x273_35, x273_36, x273_37, x273_38, x273_39, x273_40, x273_41, x273_42, ↓reduceIte, Option.toList, List.nil_append, List.cons_append, nI_add, pk_mul, n_and, n_or, n_xor, nI_leI, nI_ltI, nI_eq, n_z, uI_s, uI_n, bI_n0, bI_n1, bT, bF, if_true, if_false, not_true, not_false_eq_true, pk_div, pk_rem, Nat.reduceEqDiff, Nat.reduceLeDiff, Nat.reduceLT, Nat.reduceAdd, Nat.reduceMul, Nat.reduceSub, Nat.not_lt_zero, Nat.zero_le, reduceCtorEq, ite_self, n_rem, and_self, and_true, true_and, and_false, false_and, lf, bh, bg, sp_has, c1, c2, c3]
          · rw [show t3 A f g h = 0 from if_neg (fun h => c2 h.2.2.2.1)]
            simp (disch := first | assumption | omega | decide) only [x273_15, x273_16, x273_17, x273_18, x273_19, x273_20, x273_21, x273_22, x273_23, x273_24, x273_25, x273_26, x273_27, x273_28, x273_29, x273_30, x273_31, x273_32, x273_33, x273_34, x273_35, x273_36, x273_37, x273_38, x273_39, x273_40, x273_41, x273_42, ↓reduceIte, Option.toList, List.nil_append, List.cons_append, nI_add, pk_mul, n_and, n_or, n_xor, nI_leI, nI_ltI, nI_eq, n_z, uI_s, uI_n, bI_n0, bI_n1, bT, bF, if_true, if_false, not_true, not_false_eq_true, pk_div, pk_rem, Nat.reduceEqDiff, Nat.reduceLeDiff, Nat.reduceLT, Nat.reduceAdd, Nat.reduceMul, Nat.reduceSub, Nat.not_lt_zero, Nat.zero_le, reduceCtorEq, ite_self, n_rem, and_self, and_true, true_and, and_false, false_and, lf, bh, bg, sp_has, c1, c2]
        · rw [show t3 A f g h = 0 from if_neg (fun h => c1 h.2.2.1)]
          simp (disch := first | assumption | omega | decide) only [x273_15, x273_16, x273_17, x273_18, x273_19, x273_20, x273_21, x273_22, x273_23, x273_24, x273_25, x273_26, x273_27, x273_28, x273_29, x273_30, x273_31, x273_32, x273_33, x273_34, x273_35, x273_36, x273_37, x273_38, x273_39, x273_40, x273_41, x273_42, ↓reduceIte, Option.toList, List.nil_append, List.cons_append, nI_add, pk_mul, n_and, n_or, n_xor, nI_leI, nI_ltI, nI_eq, n_z, uI_s, uI_n, bI_n0, bI_n1, bT, bF, if_true, if_false, not_true, not_false_eq_true, pk_div, pk_rem, Nat.reduceEqDiff, Nat.reduceLeDiff, Nat.reduceLT, Nat.reduceAdd, Nat.reduceMul, Nat.reduceSub, Nat.not_lt_zero, Nat.zero_le, reduceCtorEq, ite_self, n_rem, and_self, and_true, true_and, and_false, false_and, lf, bh, bg, sp_has, c1])
      refine ⟨some (.int (nI g)), trivial, ?_⟩
      show Rn _ _ _ _ _ _ _ _ = Rn _ _ _ _ _ _ _ _
      have z : sm (fun f => t3 A f g h) 8 = sm (fun f => t3 A f g h) g := sm_z8 (by omega) (fun i h1 h2 => if_neg (fun e => by omega))
      rw [show c + sm (fun g => sm (fun f => t3 A f g h) 8) (g + 1) = e + sm (fun f => t3 A f g h) 8 by rw [ee, Nat.add_assoc]; rfl, ← ee, x273_9, z]
      simp (disch := first | assumption | omega | decide) only [x273_10, x273_11, x273_12, x273_13, ↓reduceIte, Option.toList, List.nil_append, List.cons_append, nI_add, pk_mul, n_and, n_or, n_xor, nI_leI, nI_ltI, nI_eq, n_z, uI_s, uI_n, bI_n0, bI_n1, bT, bF, if_true, if_false, not_true, not_false_eq_true, pk_div, pk_rem, Nat.reduceEqDiff, Nat.reduceLeDiff, Nat.reduceLT, Nat.reduceAdd, Nat.reduceMul, Nat.reduceSub, Nat.not_lt_zero, Nat.zero_le, reduceCtorEq, ite_self, n_rem, and_self, and_true, true_and, and_false, false_and, lg]
      refine Eq.trans hi ?_
      rw [x273_14]
      simp (disch := first | assumption | omega | decide) only [x273_15, x273_16, x273_43, x273_44, ↓reduceIte, Option.toList, List.nil_append, List.cons_append, nI_add, pk_mul, n_and, n_or, n_xor, nI_leI, nI_ltI, nI_eq, n_z, uI_s, uI_n, bI_n0, bI_n1, bT, bF, if_true, if_false, not_true, not_false_eq_true, pk_div, pk_rem, Nat.reduceEqDiff, Nat.reduceLeDiff, Nat.reduceLT, Nat.reduceAdd, Nat.reduceMul, Nat.reduceSub, Nat.not_lt_zero, Nat.zero_le, reduceCtorEq, ite_self, n_rem, and_self, and_true, true_and, and_false, false_and, Nat.le_refl]) v4 trivial
    refine ⟨(some (.int (nI h)), u), trivial, ?_⟩
    show Rn _ _ _ _ _ _ _ _ = Rn _ _ _ _ _ _ _ _
    have z : sm (fun g => sm (fun f => t3 A f g h) 8) 8 = sm (fun g => sm (fun f => t3 A f g h) 8) h := sm_z8 (by omega) (fun i h1 h2 => by
      exact (sm_c (f := fun f => t3 A f i h) (g := fun _ => 0) 8 (fun j _ => if_neg (fun e => by omega))).trans (sm_0 8))
    rw [show sm (fun h => sm (fun g => sm (fun f => t3 A f g h) 8) 8) (h + 1) = c + sm (fun g => sm (fun f => t3 A f g h) 8) 8 by rw [ec]; rfl, ← ec, x273_4, z]
    simp (disch := first | assumption | omega | decide) only [x273_5, x273_6, x273_7, x273_8, ↓reduceIte, Option.toList, List.nil_append, List.cons_append, nI_add, pk_mul, n_and, n_or, n_xor, nI_leI, nI_ltI, nI_eq, n_z, uI_s, uI_n, bI_n0, bI_n1, bT, bF, if_true, if_false, not_true, not_false_eq_true, pk_div, pk_rem, Nat.reduceEqDiff, Nat.reduceLeDiff, Nat.reduceLT, Nat.reduceAdd, Nat.reduceMul, Nat.reduceSub, Nat.not_lt_zero, Nat.zero_le, reduceCtorEq, ite_self, n_rem, and_self, and_true, true_and, and_false, false_and, lh]
    refine Eq.trans h4 ?_
    show Rn _ _ _ _ _ _ _ _ = _
    rw [x273_9]
    simp (disch := first | assumption | omega | decide) only [x273_10, x273_11, x273_45, x273_46, ↓reduceIte, Option.toList, List.nil_append, List.cons_append, nI_add, pk_mul, n_and, n_or, n_xor, nI_leI, nI_ltI, nI_eq, n_z, uI_s, uI_n, bI_n0, bI_n1, bT, bF, if_true, if_false, not_true, not_false_eq_true, pk_div, pk_rem, Nat.reduceEqDiff, Nat.reduceLeDiff, Nat.reduceLT, Nat.reduceAdd, Nat.reduceMul, Nat.reduceSub, Nat.not_lt_zero, Nat.zero_le, reduceCtorEq, ite_self, n_rem, and_self, and_true, true_and, and_false, false_and, Nat.le_refl]) (none, none) trivial
  simp (disch := first | assumption | omega | decide) only [x273_0, x273_1, x273_2, x273_3, ↓reduceIte, Option.toList, List.nil_append, List.cons_append, nI_add, pk_mul, n_and, n_or, n_xor, nI_leI, nI_ltI, nI_eq, n_z, uI_s, uI_n, bI_n0, bI_n1, bT, bF, if_true, if_false, not_true, not_false_eq_true, pk_div, pk_rem, Nat.reduceEqDiff, Nat.reduceLeDiff, Nat.reduceLT, Nat.reduceAdd, Nat.reduceMul, Nat.reduceSub, Nat.not_lt_zero, Nat.zero_le, reduceCtorEq, ite_self, n_rem, and_self, and_true, true_and, and_false, false_and]
  refine Eq.trans h3 ?_
  show Rn _ _ _ _ _ _ _ _ = _
  rw [x273_4]
  simp (disch := first | assumption | omega | decide) only [x273_5, x273_6, x273_47, x273_48, ↓reduceIte, Option.toList, List.nil_append, List.cons_append, nI_add, pk_mul, n_and, n_or, n_xor, nI_leI, nI_ltI, nI_eq, n_z, uI_s, uI_n, bI_n0, bI_n1, bT, bF, if_true, if_false, not_true, not_false_eq_true, pk_div, pk_rem, Nat.reduceEqDiff, Nat.reduceLeDiff, Nat.reduceLT, Nat.reduceAdd, Nat.reduceMul, Nat.reduceSub, Nat.not_lt_zero, Nat.zero_le, reduceCtorEq, ite_self, n_rem, and_self, and_true, true_and, and_false, false_and, Nat.le_refl]
theorem threes_eq {A : Nat → Nat} : sm (fun h => sm (fun g => sm (fun f => t3 A f g h) 8) 8) 8 = sm (fun f => sm (fun g => u3 A f g) 8) 8 := by
  have e1 : sm (fun h => sm (fun g => sm (fun f => t3 A f g h) 8) 8) 8 = sm (fun g => sm (fun h => sm (fun f => t3 A f g h) 8) 8) 8 := sm_swap (F := fun h g => sm (fun f => t3 A f g h) 8) 8
  have e2 : sm (fun f => sm (fun g => u3 A f g) 8) 8 = sm (fun g => sm (fun f => u3 A f g) 8) 8 := sm_swap (F := fun f g => u3 A f g) 8
  rw [e1, e2]
  apply sm_c
  intro g _
  exact sm_swap (F := fun h f => t3 A f g h) 8
theorem jt_threes : Jt TX sc (d + 2) 138 273 [some (.ref 0)] [some (.ref 89), none, none, none, none] := by
  refine Jt_read (fun A B w => ⟨nI (sm (fun f => sm (fun g => u3 A f g) 8) 8), ?_, ?_⟩)
  · intro I J T Q cI
    simp (disch := first | assumption | omega | decide) only [x138_0, x138_1, x138_2, x138_3, ↓reduceIte, Option.toList, List.nil_append, List.cons_append, nI_add, pk_mul, n_and, n_or, n_xor, nI_leI, nI_ltI, nI_eq, n_z, uI_s, uI_n, bI_n0, bI_n1, bT, bF, if_true, if_false, not_true, not_false_eq_true, pk_div, pk_rem, Nat.reduceEqDiff, Nat.reduceLeDiff, Nat.reduceLT, Nat.reduceAdd, Nat.reduceMul, Nat.reduceSub, Nat.not_lt_zero, Nat.zero_le, reduceCtorEq, ite_self, n_rem, and_self, and_true, true_and, and_false, false_and, sp_threesC w.1 (BsC_of cI)]
  · intro I J T Q mI
    rw [← threes_eq]
    exact sp_threesM (d := d + 1) w.1 mI.1 Q
end Threes
