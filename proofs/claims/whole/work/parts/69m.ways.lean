/-! in how many ways roads are open so that a set is the part of a house -/
def ww (A : Nat → Nat) (a S : Nat) : Nat := NN A a S S
theorem sm_rev {F : Nat → Nat} : ∀ n, sm F (n + 1) = sm (fun x => F (n - x)) (n + 1)
  | 0 => rfl
  | n + 1 => by
    rw [sm, sm_rev n]
    have key : ∀ m, sm (fun x => F (n + 1 - x)) (m + 1) = F (n + 1) + sm (fun x => F (n - x)) m := by
      intro m
      induction m with
      | zero => exact Nat.add_comm _ _
      | succ m ih =>
        rw [sm, ih, sm]
        have : n + 1 - (m + 1) = n - m := by omega
        rw [this]
        omega
    rw [key (n + 1), Nat.add_comm]
theorem sm_cut {F : Nat → Nat} {n m : Nat} (h : n ≤ m) (hz : ∀ i, n ≤ i → i < m → F i = 0) : sm F m = sm F n := by
  have := sm_z (f := F) (n := n) (m - n) (fun i h1 h2 => hz i h1 (by omega))
  rwa [show n + (m - n) = m by omega] at this
theorem sb_x : ∀ S, S < 256 → ∀ x, x < 256 → x &&& S = x → S - x = S ^^^ x := by decide +kernel
theorem sbt8 {S x : Nat} (hS : S < 256) (h : x &&& S = x) (i : Nat) : (S - x).testBit i = (S.testBit i && !x.testBit i) := by
  have hx : x ≤ S := and_l h
  rw [sb_x S hS x (by omega) h, Nat.testBit_xor]
  have hi : (x &&& S).testBit i = x.testBit i := by rw [h]
  rw [Nat.testBit_and] at hi
  cases c : S.testBit i <;> cases c2 : x.testBit i <;> simp_all
theorem sub_i {x S : Nat} : x &&& S = x ↔ ∀ i, x.testBit i = true → S.testBit i = true := by
  constructor
  · intro h i hi
    have : (x &&& S).testBit i = true := by rw [h]; exact hi
    rw [Nat.testBit_and, Bool.and_eq_true] at this
    exact this.2
  · intro h
    apply Nat.eq_of_testBit_eq
    intro i
    rw [Nat.testBit_and]
    cases c : x.testBit i
    · rfl
    · rw [h i c]
      rfl
theorem p2_sub {S a : Nat} (h : S.testBit a = true) : 2 ^ a &&& S = 2 ^ a := sub_i.mpr (fun i hi => by
  rw [Nat.testBit_two_pow, decide_eq_true_eq] at hi
  rw [← hi]
  exact h)
theorem re_ix {S x a : Nat} (hS : S < 256) (hx : x ≤ S) (ha : S.testBit a = true) : ((S - x) &&& S = S - x ∧ (S - x).testBit a = true) ↔ x &&& (S - 2 ^ a) = x := by
  have pb := sbt8 hS (p2_sub ha)
  constructor
  · rintro ⟨h1, h2⟩
    have b := sbt8 hS h1
    rw [show S - (S - x) = x by omega] at b
    refine sub_i.mpr (fun i hi => ?_)
    rw [b i, Bool.and_eq_true] at hi
    rw [pb i, hi.1, Bool.true_and, Nat.testBit_two_pow]
    by_cases e : a = i
    · subst e
      rw [h2] at hi
      exact absurd hi.2 (by decide)
    · rw [decide_eq_false e]
      rfl
  · intro h
    have h1 := sub_i.mp h
    have xs : x &&& S = x := sub_i.mpr (fun i hi => by
      have := h1 i hi
      rw [pb i, Bool.and_eq_true] at this
      exact this.1)
    have b := sbt8 hS xs
    refine ⟨sub_i.mpr (fun i hi => by
      rw [b i, Bool.and_eq_true] at hi
      exact hi.1), ?_⟩
    rw [b a, ha, Bool.true_and]
    cases c : x.testBit a
    · rfl
    · have := h1 a c
      rw [pb a, Nat.testBit_two_pow, decide_eq_true rfl] at this
      simp at this
theorem NN_z {A : Nat → Nat} {a S T : Nat} (ha : S.testBit a = true) (h : ¬ (T &&& S = T ∧ T.testBit a = true)) : NN A a S T = 0 := (sm_c (g := fun _ => 0) _ (fun R _ => if_neg (by
  rintro ⟨h1, h2⟩
  refine h ⟨sub_i.mpr (fun i hi => comp_S h1 ha i (by rw [h2]; exact hi)), ?_⟩
  rw [← h2]
  exact comp_a))).trans (sm_0 _)
theorem NN_s {A : Nat → Nat} {a S : Nat} (w : Wf A) (ha : a < 8) : 2 ^ inR' A S = sm (fun T => NN A a S T) 256 := by
  rw [← all_R]
  have e1 : sm (fun R => if R &&& eM A S = R then 1 else 0) (2 ^ A 0) = sm (fun R => sm (fun T => if R &&& eM A S = R ∧ comp A a R = T then 1 else 0) 256) (2 ^ A 0) := sm_c _ (fun R _ => by
    by_cases c : R &&& eM A S = R
    · rw [if_pos c]
      have e : sm (fun T => if R &&& eM A S = R ∧ comp A a R = T then 1 else 0) 256 = sm (fun T => if T = comp A a R then 1 else 0) 256 := sm_c _ (fun T _ => by
        by_cases c2 : T = comp A a R
        · rw [if_pos c2, if_pos ⟨c, c2.symm⟩]
        · rw [if_neg c2, if_neg (fun h => c2 h.2.symm)])
      rw [e, sm_one, if_pos (comp_l w ha)]
    · rw [if_neg c]
      exact ((sm_c (g := fun _ => 0) _ (fun T _ => if_neg (fun h => c h.1))).trans (sm_0 _)).symm)
  rw [e1]
  exact sm_swap (F := fun R T => if R &&& eM A S = R ∧ comp A a R = T then 1 else 0) (2 ^ A 0)
theorem NN_w {A : Nat → Nat} {a S T : Nat} (w : Wf A) (ha : a < 8) (hS : S < 256) (hSa : S.testBit a = true) : NN A a S T = if T &&& S = T ∧ T.testBit a = true then ww A a T * 2 ^ inR' A (S - T) else 0 := by
  by_cases c : T &&& S = T ∧ T.testBit a = true
  · rw [if_pos c]
    exact NN_eq w ha hS c.1 c.2 (sbt8 hS c.1)
  · rw [if_neg c]
    exact NN_z hSa c
def wf (A : Nat → Nat) (a S x : Nat) : Nat := ww A a (S - x) * 2 ^ inR' A x
theorem ww_s {A : Nat → Nat} {a S : Nat} (w : Wf A) (ha : a < 8) (hS : S < 256) (hSa : S.testBit a = true) : ww A a S + acS (wf A a S) (S - 2 ^ a) 0 = 2 ^ inR' A S := by
  have e0 : wf A a S 0 = ww A a S := by
    show ww A a (S - 0) * 2 ^ inR' A 0 = _
    rw [in_0, Nat.pow_zero, Nat.mul_one]
    rfl
  have gp : 0 < 2 ^ a := Nat.two_pow_pos a
  rw [← e0, ac_0, NN_s w ha]
  have e1 : sm (fun T => NN A a S T) 256 = sm (fun T => if T &&& S = T ∧ T.testBit a = true then ww A a T * 2 ^ inR' A (S - T) else 0) 256 := sm_c _ (fun T _ => NN_w w ha hS hSa)
  have e2 : sm (fun T => if T &&& S = T ∧ T.testBit a = true then ww A a T * 2 ^ inR' A (S - T) else 0) 256 = sm (fun T => if T &&& S = T ∧ T.testBit a = true then ww A a T * 2 ^ inR' A (S - T) else 0) (S + 1) := sm_cut (by omega) (fun T h1 _ => if_neg (fun h => by
    have := and_l h.1
    omega))
  have e3 : sm (fun x => if x &&& (S - 2 ^ a) = x then wf A a S x else 0) 256 = sm (fun x => if x &&& (S - 2 ^ a) = x then wf A a S x else 0) (S + 1) := sm_cut (by omega) (fun x h1 _ => if_neg (fun h => by
    have := and_l h
    omega))
  refine e3.trans (Eq.trans ?_ ((e1.trans e2).trans (sm_rev S)).symm)
  apply sm_c
  intro x hx
  have ix := re_ix (x := x) hS (by omega) hSa
  by_cases c : x &&& (S - 2 ^ a) = x
  · rw [if_pos c, if_pos (ix.mpr c), show S - (S - x) = x by omega]
    rfl
  · rw [if_neg c, if_neg (fun h => c (ix.mp h))]
def uF (A : Nat → Nat) (a b T : Nat) : Nat := if T / 2 ^ a % 2 = 1 ∧ T / 2 ^ b % 2 = 1 then ww A a T * 2 ^ inR' A (255 - T) else 0
theorem eM_all {A : Nat → Nat} {R : Nat} (w : Wf A) (hR : R < 2 ^ A 0) : R &&& eM A 255 = R := sub_i.mpr (fun i hi => by
  have hi2 : i < A 0 := by
    by_cases c : i < A 0
    · exact c
    · rw [lt_tb hR (by omega)] at hi
      cases hi
  obtain ⟨a8, b8, -⟩ := w.2.2.1.1 i hi2
  exact (eM_b (A := A) (S := 255) (A 0)).mpr ⟨hi2, t255 _ a8, t255 _ b8⟩)
theorem up_eq {A : Nat → Nat} {a b : Nat} (w : Wf A) (ha : a < 8) : sm (fun R => if comp A a R / 2 ^ b % 2 = 1 then 1 else 0) (2 ^ A 0) = sm (uF A a b) 256 := by
  have e1 : sm (fun R => if comp A a R / 2 ^ b % 2 = 1 then 1 else 0) (2 ^ A 0) = sm (fun R => sm (fun T => if T / 2 ^ b % 2 = 1 then (if R &&& eM A 255 = R ∧ comp A a R = T then 1 else 0) else 0) 256) (2 ^ A 0) := sm_c _ (fun R hR => by
    have e : sm (fun T => if T / 2 ^ b % 2 = 1 then (if R &&& eM A 255 = R ∧ comp A a R = T then 1 else 0) else 0) 256 = sm (fun T => if T = comp A a R then (if comp A a R / 2 ^ b % 2 = 1 then 1 else 0) else 0) 256 := sm_c _ (fun T _ => by
      by_cases c2 : T = comp A a R
      · rw [if_pos c2, ← c2]
        by_cases c : T / 2 ^ b % 2 = 1
        · rw [if_pos c, if_pos c, if_pos ⟨eM_all w hR, rfl⟩]
        · rw [if_neg c, if_neg c]
      · rw [if_neg c2]
        by_cases c : T / 2 ^ b % 2 = 1
        · rw [if_pos c, if_neg (fun h => c2 h.2.symm)]
        · rw [if_neg c])
    rw [e, sm_one, if_pos (comp_l w ha)])
  rw [e1, sm_swap (F := fun R T => if T / 2 ^ b % 2 = 1 then (if R &&& eM A 255 = R ∧ comp A a R = T then 1 else 0) else 0) (2 ^ A 0)]
  apply sm_c
  intro T hT
  unfold uF
  by_cases c : T / 2 ^ b % 2 = 1
  · have e2 : sm (fun R => if T / 2 ^ b % 2 = 1 then (if R &&& eM A 255 = R ∧ comp A a R = T then 1 else 0) else 0) (2 ^ A 0) = NN A a 255 T := sm_c _ (fun R _ => if_pos c)
    rw [e2, NN_w w ha (by decide) (t255 a ha)]
    by_cases c2 : T / 2 ^ a % 2 = 1
    · rw [if_pos ⟨and255 hT, tb_iff.mp c2⟩, if_pos ⟨c2, c⟩]
    · rw [if_neg (fun h => c2 (tb_iff.mpr h.2)), if_neg (fun h => c2 h.1)]
  · rw [if_neg (fun h => c h.2)]
    exact (sm_c (g := fun _ => 0) _ (fun R _ => if_neg c)).trans (sm_0 _)
theorem sm_le {F G : Nat → Nat} : ∀ n, (∀ i, i < n → F i ≤ G i) → sm F n ≤ sm G n
  | 0, _ => Nat.le_refl _
  | n + 1, h => by
    have h1 := sm_le (F := F) (G := G) n (fun i hi => h i (by omega))
    have h2 := h n (by omega)
    rw [sm, sm]
    omega
theorem ac_le {f : Nat → Nat} {S p : Nat} : acS f S p ≤ acS f S 0 := sm_le 256 (fun x _ => by
  by_cases c : x &&& S = x ∧ p < x
  · rw [if_pos c, if_pos ⟨c.1, by omega⟩]
    exact Nat.le_refl _
  · rw [if_neg c]
    exact Nat.zero_le _)
theorem p12 {k : Nat} (h : k ≤ 12) : 2 ^ k ≤ 4096 := Nat.pow_le_pow_right (show 0 < 2 by decide) h
theorem up_le {A : Nat → Nat} {a b : Nat} (w : Wf A) (ha : a < 8) : sm (uF A a b) 256 ≤ 4096 := by
  rw [← up_eq w ha]
  have key : ∀ n, sm (fun R => if comp A a R / 2 ^ b % 2 = 1 then 1 else 0) n ≤ n := by
    intro n
    induction n with
    | zero => exact Nat.le_refl _
    | succ n ih =>
      rw [sm]
      split <;> omega
  exact Nat.le_trans (key _) (p12 w.1.1)
section Ways
variable {sc : Sc} {d : Nat} {J : Nat → Nat → Int64} {T : Option Nat} {A : Nat → Nat}
theorem sp_join2 {I : Nat → Nat → Int32} {a S : Nat} (w : Wf A) (ha : a < 8) (hS : S < 256) (hSa : S.testBit a = true) (k : ∀ S, S < 256 → I 74 S = nI (inR' A S)) (kw : ∀ X, X < S → X.testBit a = true → I 75 X = nI (ww A a X)) : ∀ Q, Rn sc d 84 0 [some (.ref 72), some (.int (nI S)), some (.int (nI (2 ^ a))), none, none, none] [] (K0, I, J, R1 T) Q = Q (some (.int (nI (ww A a S)))) (K0, I, J, R1 T) := by
  intro Q
  have tot := ww_s w ha hS hSa
  have gp : 0 < 2 ^ a := Nat.two_pow_pos a
  have li := in_le (A := A) (S := S) w
  have l12 := p12 li
  have pa : 2 ^ a ≤ S := and_l (p2_sub hSa)
  have pb := sbt8 hS (p2_sub hSa)
  have loop : ∀ p, p &&& (S - 2 ^ a) = p → Rn sc d 84 13 [some (.ref 72), some (.int (nI S)), some (.int (nI (2 ^ a))), some (.int (nI (2 ^ inR' A S - acS (wf A a S) (S - 2 ^ a) p))), some (.int (nI (S - 2 ^ a))), some (.int (nI p))] [] (K0, I, J, R1 T) Q = Q (some (.int (nI (ww A a S)))) (K0, I, J, R1 T) := by
    intro p
    induction p using Nat.strongRecOn with
    | _ p ih =>
      intro hp
      have lp := and_l hp
      by_cases c : p = 0
      · subst c
        rw [show 2 ^ inR' A S - acS (wf A a S) (S - 2 ^ a) 0 = ww A a S by omega, x84_13]
        simp (disch := first | assumption | omega | decide) only [x84_14, x84_36, x84_37, ↓reduceIte, Option.toList, List.nil_append, List.cons_append, nI_add, pk_mul, n_and, n_or, n_xor, nI_leI, nI_ltI, nI_eq, n_z, uI_s, uI_n, bI_n0, bI_n1, bT, bF, if_true, if_false, not_true, not_false_eq_true, pk_div, pk_rem, Nat.reduceEqDiff, Nat.reduceLeDiff, Nat.reduceLT, Nat.reduceAdd, Nat.reduceMul, Nat.reduceSub, Nat.not_lt_zero, Nat.zero_le, reduceCtorEq, ite_self, n_rem, and_self, and_true, true_and, and_false, false_and, Nat.le_refl]
      · have c' : ¬ p ≤ 0 := by omega
        have l1 : (p - 1) &&& (S - 2 ^ a) ≤ p - 1 := Nat.and_le_left
        have es := ac_s (f := wf A a S) hp (by omega) (by omega)
        have le := ac_le (f := wf A a S) (S := S - 2 ^ a) (p := (p - 1) &&& (S - 2 ^ a))
        have hq : ((p - 1) &&& (S - 2 ^ a)) &&& (S - 2 ^ a) = (p - 1) &&& (S - 2 ^ a) := by rw [Nat.and_assoc, Nat.and_self]
        have nx := ih ((p - 1) &&& (S - 2 ^ a)) (by omega) hq
        rw [es] at nx le
        have ix := (re_ix (x := p) hS (by omega) hSa).mpr hp
        have e1 := kw (S - p) (by omega) ix.2
        have e2 := k p (by omega)
        have lip := in_le (A := A) (S := p) w
        have ef : ww A a (S - p) * 2 ^ inR' A p = wf A a S p := rfl
        have lf : wf A a S p ≤ 4096 := by omega
        have sh : nI (ww A a (S - p)) <<< (nI (inR' A p) &&& 31) = nI (wf A a S p) := by
          rw [n_shl (by omega) (by rw [ef]; omega), ef]
        have q1 : S - p < 256 := by omega
        have q2 : p < 256 := by omega
        rw [show 2 ^ inR' A S - (acS (wf A a S) (S - 2 ^ a) p + wf A a S p) = 2 ^ inR' A S - acS (wf A a S) (S - 2 ^ a) p - wf A a S p by omega] at nx
        rw [← nx, x84_13]
        simp (disch := first | assumption | omega | decide) only [x84_14, x84_15, x84_16, x84_17, x84_18, x84_19, x84_20, x84_21, x84_22, x84_23, x84_24, x84_25, x84_26, x84_27, x84_28, x84_29, x84_30, x84_31, x84_32, x84_33, x84_34, x84_35, ↓reduceIte, Option.toList, List.nil_append, List.cons_append, nI_add, pk_mul, n_and, n_or, n_xor, nI_leI, nI_ltI, nI_eq, n_z, uI_s, uI_n, bI_n0, bI_n1, bT, bF, if_true, if_false, not_true, not_false_eq_true, pk_div, pk_rem, Nat.reduceEqDiff, Nat.reduceLeDiff, Nat.reduceLT, Nat.reduceAdd, Nat.reduceMul, Nat.reduceSub, Nat.not_lt_zero, Nat.zero_le, reduceCtorEq, ite_self, n_rem, and_self, and_true, true_and, and_false, false_and, c', n_sub (show p ≤ S by omega), e1, e2, sh, n_sub (show wf A a S p ≤ 2 ^ inR' A S - acS (wf A a S) (S - 2 ^ a) p by omega), n_sub (show 1 ≤ p by omega)]
  have l0 := loop (S - 2 ^ a) (Nat.and_self _)
  rw [ac_S, Nat.sub_zero] at l0
  have e0 := k S hS
  simp (disch := first | assumption | omega | decide) only [x84_0, x84_1, x84_2, x84_3, x84_4, x84_5, x84_6, x84_7, x84_8, x84_9, x84_10, x84_11, x84_12, ↓reduceIte, Option.toList, List.nil_append, List.cons_append, nI_add, pk_mul, n_and, n_or, n_xor, nI_leI, nI_ltI, nI_eq, n_z, uI_s, uI_n, bI_n0, bI_n1, bT, bF, if_true, if_false, not_true, not_false_eq_true, pk_div, pk_rem, Nat.reduceEqDiff, Nat.reduceLeDiff, Nat.reduceLT, Nat.reduceAdd, Nat.reduceMul, Nat.reduceSub, Nat.not_lt_zero, Nat.zero_le, reduceCtorEq, ite_self, n_rem, and_self, and_true, true_and, and_false, false_and, e0, n_one, n_sub pa]
  exact l0
theorem sp_ways {I : Nat → Nat → Int32} {a b : Nat} (w : Wf A) (ha : a < 8) (hb : b < 8) (eB : BsC I A) : ∃ I', (∀ c k, c ≠ 74 ∧ c ≠ 75 → I' c k = I c k) ∧ ∀ Q, Rn sc (d + 3) 83 0 [some (.ref 72), some (.int (nI a)), some (.int (nI b)), none, none] [] (K0, I, J, R1 T) Q = Q (some (.int (nI (sm (uF A a b) 256)))) (K0, I', J, R1 T) := by
  obtain ⟨I1, f1, k1, q1⟩ := sp_inside (sc := sc) (d := d) (J := J) (T := T) w eB
  obtain ⟨I2, ⟨f2, k2⟩, h3⟩ := iterE (fun S I' => (∀ c k, c ≠ 75 → I' c k = I1 c k) ∧ ∀ X, X < S → X.testBit a = true → I' 75 X = nI (ww A a X)) (fun S I' => fun Q => Rn sc (d + 3) 83 6 [some (.ref 72), some (.int (nI a)), some (.int (nI b)), some (.int (nI (sm (uF A a b) S))), some (.int (nI S))] [] (K0, I', J, R1 T) Q) 256 (by
    rintro S I2 hS ⟨f2, k2⟩
    have lS : ¬ 256 ≤ S := by omega
    have k3 : ∀ X, X < 256 → I2 74 X = nI (inR' A X) := fun X hX => (f2 _ _ (by omega)).trans (k1 X hX)
    by_cases c : S / 2 ^ a % 2 = 1
    · have sj := sp_join2 (sc := sc) (d := d + 2) (J := J) (T := T) w ha hS (tb_iff.mp c) k3 k2
      refine ⟨uI I2 75 S (nI (ww A a S)), ⟨fun c k hc => (uI_n (by omega)).trans (f2 c k hc), fun X hX hXa => ?_⟩, funext fun Q => ?_⟩
      · by_cases e : X = S
        · rw [e, uI_s]
        · rw [uI_n (by omega)]
          exact k2 X (by omega) hXa
      · show Rn _ _ _ _ _ _ _ _ = Rn _ _ _ _ _ _ _ _
        rw [x83_6, sm]
        unfold uF
        by_cases c2 : S / 2 ^ b % 2 = 1
        · have e2 := k3 (255 - S) (by omega)
          have lf : uF A a b S ≤ 4096 := by
            have h1 := up_le (b := b) w ha
            have h2 : uF A a b S ≤ sm (uF A a b) 256 := by
              have : sm (fun x => if x = S then uF A a b S else 0) 256 ≤ sm (uF A a b) 256 := sm_le 256 (fun i _ => by
                by_cases e : i = S
                · rw [if_pos e, e]; exact Nat.le_refl _
                · rw [if_neg e]; exact Nat.zero_le _)
              rwa [sm_one, if_pos hS] at this
            omega
          have eu : uF A a b S = ww A a S * 2 ^ inR' A (255 - S) := if_pos ⟨c, c2⟩
          have lip := in_le (A := A) (S := 255 - S) w
          have sh : nI (ww A a S) <<< (nI (inR' A (255 - S)) &&& 31) = nI (ww A a S * 2 ^ inR' A (255 - S)) := n_shl (by omega) (by omega)
          have q2 : 255 - S < 256 := by omega
          rw [if_pos ⟨c, c2⟩]
          simp (disch := first | assumption | omega | decide) only [x83_7, x83_8, x83_9, x83_10, x83_11, x83_12, x83_13, x83_14, x83_15, x83_16, x83_17, x83_18, x83_19, x83_20, x83_21, x83_22, x83_23, x83_24, x83_25, x83_26, x83_27, x83_28, x83_29, x83_30, x83_31, x83_32, x83_33, x83_34, x83_35, x83_36, x83_37, x83_38, x83_39, x83_40, x83_41, x83_42, x83_43, x83_44, x83_45, x83_46, x83_47, x83_48, ↓reduceIte, Option.toList, List.nil_append, List.cons_append, nI_add, pk_mul, n_and, n_or, n_xor, nI_leI, nI_ltI, nI_eq, n_z, uI_s, uI_n, bI_n0, bI_n1, bT, bF, if_true, if_false, not_true, not_false_eq_true, pk_div, pk_rem, Nat.reduceEqDiff, Nat.reduceLeDiff, Nat.reduceLT, Nat.reduceAdd, Nat.reduceMul, Nat.reduceSub, Nat.not_lt_zero, Nat.zero_le, reduceCtorEq, ite_self, n_rem, and_self, and_true, true_and, and_false, false_and, lS, n_bit, c, n_one, sj, c2, n_sub (show S ≤ 255 by omega), e2, sh]
        · rw [if_neg (fun h => c2 h.2)]
          simp (disch := first | assumption | omega | decide) only [x83_7, x83_8, x83_9, x83_10, x83_11, x83_12, x83_13, x83_14, x83_15, x83_16, x83_17, x83_18, x83_19, x83_20, x83_21, x83_22, x83_23, x83_24, x83_25, x83_26, x83_27, x83_28, x83_29, x83_30, x83_31, x83_32, x83_33, x83_34, x83_35, x83_36, x83_37, x83_38, x83_39, x83_40, x83_41, x83_42, x83_43, x83_44, x83_45, x83_46, x83_47, x83_48, ↓reduceIte, Option.toList, List.nil_append, List.cons_append, nI_add, pk_mul, n_and, n_or, n_xor, nI_leI, nI_ltI, nI_eq, n_z, uI_s, uI_n, bI_n0, bI_n1, bT, bF, if_true, if_false, not_true, not_false_eq_true, pk_div, pk_rem, Nat.reduceEqDiff, Nat.reduceLeDiff, Nat.reduceLT, Nat.reduceAdd, Nat.reduceMul, Nat.reduceSub, Nat.not_lt_zero, Nat.zero_le, reduceCtorEq, ite_self, n_rem, and_self, and_true, true_and, and_false, false_and, lS, n_bit, c, n_one, sj, c2, Nat.add_zero]
    · refine ⟨I2, ⟨f2, fun X hX hXa => ?_⟩, funext fun Q => ?_⟩
      · by_cases e : X = S
        · subst e
          exact absurd (tb_iff.mpr hXa) c
        · exact k2 X (by omega) hXa
      · show Rn _ _ _ _ _ _ _ _ = Rn _ _ _ _ _ _ _ _
        rw [x83_6, sm]
        unfold uF
        rw [if_neg (fun h => c h.1)]
        simp (disch := first | assumption | omega | decide) only [x83_7, x83_8, x83_9, x83_10, x83_11, x83_12, x83_13, x83_14, x83_15, x83_16, x83_17, x83_18, x83_19, x83_20, x83_21, x83_22, x83_23, x83_24, x83_25, x83_26, x83_27, x83_28, x83_29, x83_30, x83_31, x83_32, x83_33, x83_34, x83_35, x83_36, x83_37, x83_38, x83_39, x83_40, x83_41, x83_42, x83_43, x83_44, x83_45, x83_46, x83_47, x83_48, ↓reduceIte, Option.toList, List.nil_append, List.cons_append, nI_add, pk_mul, n_and, n_or, n_xor, nI_leI, nI_ltI, nI_eq, n_z, uI_s, uI_n, bI_n0, bI_n1, bT, bF, if_true, if_false, not_true, not_false_eq_true, pk_div, pk_rem, Nat.reduceEqDiff, Nat.reduceLeDiff, Nat.reduceLT, Nat.reduceAdd, Nat.reduceMul, Nat.reduceSub, Nat.not_lt_zero, Nat.zero_le, reduceCtorEq, ite_self, n_rem, and_self, and_true, true_and, and_false, false_and, lS, n_bit, c, Nat.add_zero]) I1 ⟨fun _ _ _ => rfl, fun X hX => by omega⟩
  refine ⟨I2, fun c k hc => (f2 c k hc.2).trans (f1 c k hc.1), fun Q => ?_⟩
  have h3' := congrFun h3 Q
  simp (disch := first | assumption | omega | decide) only [x83_0, x83_1, x83_2, x83_3, x83_4, x83_5, ↓reduceIte, Option.toList, List.nil_append, List.cons_append, nI_add, pk_mul, n_and, n_or, n_xor, nI_leI, nI_ltI, nI_eq, n_z, uI_s, uI_n, bI_n0, bI_n1, bT, bF, if_true, if_false, not_true, not_false_eq_true, pk_div, pk_rem, Nat.reduceEqDiff, Nat.reduceLeDiff, Nat.reduceLT, Nat.reduceAdd, Nat.reduceMul, Nat.reduceSub, Nat.not_lt_zero, Nat.zero_le, reduceCtorEq, ite_self, n_rem, and_self, and_true, true_and, and_false, false_and, q1]
  refine Eq.trans h3' ?_
  show Rn _ _ _ _ _ _ _ _ = _
  rw [x83_6]
  simp (disch := first | assumption | omega | decide) only [x83_7, x83_8, x83_49, x83_50, ↓reduceIte, Option.toList, List.nil_append, List.cons_append, nI_add, pk_mul, n_and, n_or, n_xor, nI_leI, nI_ltI, nI_eq, n_z, uI_s, uI_n, bI_n0, bI_n1, bT, bF, if_true, if_false, not_true, not_false_eq_true, pk_div, pk_rem, Nat.reduceEqDiff, Nat.reduceLeDiff, Nat.reduceLT, Nat.reduceAdd, Nat.reduceMul, Nat.reduceSub, Nat.not_lt_zero, Nat.zero_le, reduceCtorEq, ite_self, n_rem, and_self, and_true, true_and, and_false, false_and, Nat.le_refl]
end Ways
