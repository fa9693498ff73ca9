/-! who began it: days shifted, so that none is below 0 -/
theorem nI_bv (n : Nat) : (nI n).toBitVec = BitVec.ofNat 32 n := rfl
theorem bv_sub (x y : Int32) : (x - y).toBitVec = x.toBitVec - y.toBitVec := rfl
theorem bv_add (x y : Int32) : (x + y).toBitVec = x.toBitVec + y.toBitVec := rfl
theorem bv_eq {x y : Int32} (h : x.toBitVec.toNat = y.toBitVec.toNat) : x = y := Int32.toBitVec_inj.1 (BitVec.eq_of_toNat_eq h)
def shI (n : Nat) : Int32 := nI n - nI 1000000
theorem sh_toInt {n : Nat} (h : n < 2 ^ 30) : (shI n).toInt = (n : Int) - 1000000 := by
  unfold shI
  rw [pk_sub_toInt h (by omega)]
  omega
theorem sh_lt {a b : Nat} (ha : a < 2 ^ 30) (hb : b < 2 ^ 30) : (shI a < shI b) = (a < b) := by
  rw [Int32.lt_iff_toInt_lt, sh_toInt ha, sh_toInt hb]
  apply propext
  omega
theorem sh_le {a b : Nat} (ha : a < 2 ^ 30) (hb : b < 2 ^ 30) : (shI a ≤ shI b) = (a ≤ b) := by
  rw [Int32.le_iff_toInt_le, sh_toInt ha, sh_toInt hb]
  apply propext
  omega
theorem sh_eq {a b : Nat} (ha : a < 2 ^ 30) (hb : b < 2 ^ 30) : (shI a = shI b) = (a = b) := by
  apply propext
  constructor
  · intro h
    have := congrArg Int32.toInt h
    rw [sh_toInt ha, sh_toInt hb] at this
    omega
  · intro h
    rw [h]
theorem sh_d {x k : Nat} (hx : x ≤ 1000) (hk : k ≤ 1000) : nI x - nI k = shI (1000000 + x - k) := by
  apply Int32.toInt_inj.1
  rw [pk_sub_toInt (by omega) (by omega), sh_toInt (by omega)]
  omega
theorem sh_ss {a b : Nat} (ha : a < 2 ^ 30) (hb : b < 2 ^ 30) (h : b ≤ a) : shI a - shI b = nI (a - b) := by
  refine bv_eq ?_
  simp only [shI, bv_sub, bv_add, nI_bv, BitVec.toNat_sub, BitVec.toNat_add, BitVec.toNat_ofNat]
  omega
theorem sh_sn {a b : Nat} (ha : a < 2 ^ 30) (h : b ≤ a) : shI a - nI b = shI (a - b) := by
  refine bv_eq ?_
  simp only [shI, bv_sub, bv_add, nI_bv, BitVec.toNat_sub, BitVec.toNat_add, BitVec.toNat_ofNat]
  omega
theorem sh_an {a b : Nat} (ha : a < 2 ^ 30) (hb : b < 2 ^ 30) : shI a + nI b = shI (a + b) := by
  refine bv_eq ?_
  simp only [shI, bv_sub, bv_add, nI_bv, BitVec.toNat_sub, BitVec.toNat_add, BitVec.toNat_ofNat]
  omega
theorem sh_now {a b : Nat} (ha : a < 2 ^ 29) (hb : b < 2 ^ 29) (h : 1998000 ≤ a + b) : shI a + shI b + nI 2000 = nI (a + b - 1998000) := by
  refine bv_eq ?_
  simp only [shI, bv_sub, bv_add, nI_bv, BitVec.toNat_sub, BitVec.toNat_add, BitVec.toNat_ofNat]
  omega
theorem sh_fin {a c : Nat} (ha : a < 2 ^ 29) (hc : c = a + 999000) : nI a - nI 1000 = shI c := by
  apply Int32.toInt_inj.1
  rw [pk_sub_toInt (by omega) (by omega), sh_toInt (by omega)]
  omega
theorem sh_c1 : nI 1000 = shI 1001000 := by decide
theorem sh_c2 : (-1000 : Int32) = shI 999000 := by decide
theorem sh_c3 : nI 1000000 = shI 2000000 := by decide
theorem sh_c4 : (-1000000 : Int32) = shI 0 := by decide
def mnF (i0 : Nat) (v : Nat → Nat) : Nat → Nat
  | 0 => i0
  | j + 1 => if v j < mnF i0 v j then v j else mnF i0 v j
def mxF (i0 : Nat) (v : Nat → Nat) : Nat → Nat
  | 0 => i0
  | j + 1 => if mxF i0 v j < v j then v j else mxF i0 v j
def vH (A : Nat → Nat) (h j : Nat) : Nat := 1000000 + A (72 + 2 * j + 1) - ds A h (A (72 + 2 * j))
def okW (A : Nat → Nat) (h n : Nat) : Prop := ∀ i, i < n → ds A h (A (72 + 2 * i)) < 8
theorem vH_b {A : Nat → Nat} {h j : Nat} (w : Wf A) (hj : j < A 5) (ok : ds A h (A (72 + 2 * j)) < 8) : 999993 ≤ vH A h j ∧ vH A h j ≤ 1000099 := by
  have := (w.2.2.2.1.1 j hj).2
  unfold vH
  omega
theorem mn_b {A : Nat → Nat} {h i0 : Nat} (w : Wf A) (hi : 1001000 ≤ i0) : ∀ n, n ≤ A 5 → okW A h n → 999993 ≤ mnF i0 (vH A h) n ∧ mnF i0 (vH A h) n ≤ i0 ∧ (0 < n → mnF i0 (vH A h) n ≤ 1000099 ∧ mnF i0 (vH A h) n = mnF 2000000 (vH A h) n)
  | 0, _, _ => ⟨by show 999993 ≤ i0; omega, Nat.le_refl _, fun h => by omega⟩
  | n + 1, hn, ok => by
    obtain ⟨h1, h2, h3⟩ := mn_b w hi n (by omega) (fun i hi => ok i (by omega))
    have hv := vH_b (h := h) w (show n < A 5 by omega) (ok n (by omega))
    have e0 : n = 0 → mnF i0 (vH A h) n = i0 ∧ mnF 2000000 (vH A h) n = 2000000 := by
      intro e
      subst e
      exact ⟨rfl, rfl⟩
    show 999993 ≤ (if vH A h n < mnF i0 (vH A h) n then vH A h n else mnF i0 (vH A h) n) ∧ (if vH A h n < mnF i0 (vH A h) n then vH A h n else mnF i0 (vH A h) n) ≤ i0 ∧ (0 < n + 1 → (if vH A h n < mnF i0 (vH A h) n then vH A h n else mnF i0 (vH A h) n) ≤ 1000099 ∧ (if vH A h n < mnF i0 (vH A h) n then vH A h n else mnF i0 (vH A h) n) = (if vH A h n < mnF 2000000 (vH A h) n then vH A h n else mnF 2000000 (vH A h) n))
    by_cases c : n = 0
    · obtain ⟨p1, p2⟩ := e0 c
      rw [p1, p2, if_pos (by omega), if_pos (by omega)]
      omega
    · obtain ⟨h4, h5⟩ := h3 (by omega)
      rw [← h5]
      by_cases c2 : vH A h n < mnF i0 (vH A h) n
      · rw [if_pos c2]
        omega
      · rw [if_neg c2]
        omega
theorem mx_b {A : Nat → Nat} {h i0 : Nat} (w : Wf A) (hi : i0 ≤ 999000) : ∀ n, n ≤ A 5 → okW A h n → mxF i0 (vH A h) n ≤ 1000099 ∧ (0 < n → 999993 ≤ mxF i0 (vH A h) n ∧ mxF i0 (vH A h) n = mxF 0 (vH A h) n ∧ mnF 2000000 (vH A h) n ≤ mxF i0 (vH A h) n)
  | 0, _, _ => ⟨by show i0 ≤ 1000099; omega, fun h => by omega⟩
  | n + 1, hn, ok => by
    have ok' : okW A h n := fun i hi => ok i (by omega)
    obtain ⟨h1, h3⟩ := mx_b w hi n (by omega) ok'
    obtain ⟨m1, m2, m3⟩ := mn_b (i0 := 2000000) w (by omega) n (by omega) ok'
    have hv := vH_b (h := h) w (show n < A 5 by omega) (ok n (by omega))
    have e0 : n = 0 → mxF i0 (vH A h) n = i0 ∧ mxF 0 (vH A h) n = 0 ∧ mnF 2000000 (vH A h) n = 2000000 := by
      intro e
      subst e
      exact ⟨rfl, rfl, rfl⟩
    show (if mxF i0 (vH A h) n < vH A h n then vH A h n else mxF i0 (vH A h) n) ≤ 1000099 ∧ (0 < n + 1 → 999993 ≤ (if mxF i0 (vH A h) n < vH A h n then vH A h n else mxF i0 (vH A h) n) ∧ (if mxF i0 (vH A h) n < vH A h n then vH A h n else mxF i0 (vH A h) n) = (if mxF 0 (vH A h) n < vH A h n then vH A h n else mxF 0 (vH A h) n) ∧ (if vH A h n < mnF 2000000 (vH A h) n then vH A h n else mnF 2000000 (vH A h) n) ≤ (if mxF i0 (vH A h) n < vH A h n then vH A h n else mxF i0 (vH A h) n))
    by_cases c : n = 0
    · obtain ⟨p1, p2, p3⟩ := e0 c
      rw [p1, p2, p3, if_pos (by omega), if_pos (by omega), if_pos (by omega)]
      omega
    · obtain ⟨h4, h5, h6⟩ := h3 (by omega)
      rw [← h5]
      by_cases c2 : mxF i0 (vH A h) n < vH A h n
      · rw [if_pos c2]
        split <;> omega
      · rw [if_neg c2]
        split <;> omega
/-- the earliest, the latest, the day between, and how much it is out -/
def lH (A : Nat → Nat) (h : Nat) : Nat := mnF 2000000 (vH A h) (A 5)
def mH (A : Nat → Nat) (h : Nat) : Nat := mxF 0 (vH A h) (A 5)
def sH (A : Nat → Nat) (h : Nat) : Nat := (lH A h + mH A h) / 2
def eH (A : Nat → Nat) (h : Nat) : Nat := (mH A h - lH A h + 1) / 2
def okH (A : Nat → Nat) (h : Nat) : Prop := okW A h (A 5)
theorem lm_b {A : Nat → Nat} {h : Nat} (w : Wf A) (h5 : 0 < A 5) (ok : okH A h) : 999993 ≤ lH A h ∧ lH A h ≤ mH A h ∧ mH A h ≤ 1000099 := by
  obtain ⟨m1, m2, m3⟩ := mn_b (i0 := 2000000) w (by omega) (A 5) (Nat.le_refl _) ok
  obtain ⟨h1, h3⟩ := mx_b (i0 := 0) w (by omega) (A 5) (Nat.le_refl _) ok
  exact ⟨m1, (h3 h5).2.2, h1⟩
section Since
variable {TX : (Nat → Nat → Int32) → Nat → Prop} {sc : Sc} {d : Nat} {J : Nat → Nat → Int64} {T : Option Nat} {A : Nat → Nat}
theorem wg_loop {I : Nat → Nat → Int32} {h : Nat} (hh : h < 8) (w : Wf A) (nt : Nts I 32 33 34 35 36 37 38 A) (e : ∀ a h, a < 8 → h < 8 → I 73 (a * 8 + h) = dvD (ds A a h)) : ∀ (m i : Nat) (u : Option Value), i + m = A 5 → okW A h i → (okH A h ∧ ∃ u', ∀ Q, Rn sc (d + 1) 7 16 [some (.ref 80), some (.int (nI h)), some (.int (shI (mnF 1001000 (vH A h) i))), some (.int (shI (mxF 999000 (vH A h) i))), some (.int (nI i)), u] [] (K0, I, J, R1 T) Q = Rn sc (d + 1) 7 57 [some (.ref 80), some (.int (nI h)), some (.int (shI (mnF 1001000 (vH A h) (A 5)))), some (.int (shI (mxF 999000 (vH A h) (A 5)))), some (.int (nI (A 5))), u'] [] (K0, I, J, R1 T) Q) ∨ (¬ okH A h ∧ ∀ Q, Rn sc (d + 1) 7 16 [some (.ref 80), some (.int (nI h)), some (.int (shI (mnF 1001000 (vH A h) i))), some (.int (shI (mxF 999000 (vH A h) i))), some (.int (nI i)), u] [] (K0, I, J, R1 T) Q = Q none (K0, I, J, R1 T)) := by
  have w5 : A 5 ≤ 8 := w.1.2.2.2.2.2.1
  obtain ⟨n1, n2, n3, n4, n5, n6⟩ := nt
  intro m
  induction m with
  | zero =>
    intro i u hi ok
    obtain rfl : i = A 5 := by omega
    refine Or.inl ⟨ok, u, fun Q => ?_⟩
    rw [x7_16]
    simp (disch := first | assumption | omega | decide) only [x7_17, x7_18, x7_19, x7_20, ↓reduceIte, Option.toList, List.nil_append, List.cons_append, nI_add, pk_mul, n_and, n_or, n_xor, nI_leI, nI_ltI, nI_eq, n_z, uI_s, uI_n, bI_n0, bI_n1, bT, bF, if_true, if_false, not_true, not_false_eq_true, pk_div, pk_rem, Nat.reduceEqDiff, Nat.reduceLeDiff, Nat.reduceLT, Nat.reduceAdd, Nat.reduceMul, Nat.reduceSub, Nat.not_lt_zero, Nat.zero_le, reduceCtorEq, ite_self, n_rem, and_self, and_true, true_and, and_false, false_and, n1, Nat.le_refl]
  | succ m ih =>
    intro i u hi ok
    have hi5 : i < A 5 := by omega
    have i8 : i < 8 := by omega
    have li : ¬ A 5 ≤ i := by omega
    obtain ⟨v1, v2⟩ := w.2.2.2.1.1 i hi5
    obtain ⟨m1, m2⟩ := n4 i hi5
    have ed := fun Q => sp_dist (Q := Q) (sc := sc) (d := d) (J := J) (T := T) hh v1 e
    by_cases c : ds A h (A (72 + 2 * i)) < 8
    · have dt := dvD_t c
      have ok' : okW A h (i + 1) := fun j hj => by
        by_cases e : j = i
        · rw [e]; exact c
        · exact ok j (by omega)
      have hv := vH_b (h := h) w hi5 c
      obtain ⟨b1, b2, b3⟩ := mn_b (i0 := 1001000) w (by omega) i (by omega) ok
      obtain ⟨b4, b5⟩ := mx_b (i0 := 999000) w (by omega) i (by omega) ok
      have sd : nI (A (72 + 2 * i + 1)) - nI (ds A h (A (72 + 2 * i))) = shI (vH A h i) := sh_d (by omega) (by omega)
      have s1 : (if shI (vH A h i) < shI (mnF 1001000 (vH A h) i) then shI (vH A h i) else shI (mnF 1001000 (vH A h) i)) = shI (mnF 1001000 (vH A h) (i + 1)) := by
        rw [mnF]
        simp only [sh_lt (show vH A h i < 2 ^ 30 by omega) (show mnF 1001000 (vH A h) i < 2 ^ 30 by omega)]
        split <;> rfl
      have s2 : (if shI (mxF 999000 (vH A h) i) < shI (vH A h i) then shI (vH A h i) else shI (mxF 999000 (vH A h) i)) = shI (mxF 999000 (vH A h) (i + 1)) := by
        rw [mxF]
        simp only [sh_lt (show mxF 999000 (vH A h) i < 2 ^ 30 by omega) (show vH A h i < 2 ^ 30 by omega)]
        split <;> rfl
      have step : ∀ Q, Rn sc (d + 1) 7 16 [some (.ref 80), some (.int (nI h)), some (.int (shI (mnF 1001000 (vH A h) i))), some (.int (shI (mxF 999000 (vH A h) i))), some (.int (nI i)), u] [] (K0, I, J, R1 T) Q = Rn sc (d + 1) 7 16 [some (.ref 80), some (.int (nI h)), some (.int (shI (mnF 1001000 (vH A h) (i + 1)))), some (.int (shI (mxF 999000 (vH A h) (i + 1)))), some (.int (nI (i + 1))), some (.int (nI (ds A h (A (72 + 2 * i)))))] [] (K0, I, J, R1 T) Q := by
        intro Q
        rw [x7_16]
        simp (disch := first | assumption | omega | decide) only [x7_17, x7_18, x7_19, x7_20, x7_21, x7_22, x7_23, x7_24, x7_25, x7_26, x7_27, x7_28, x7_29, x7_30, x7_31, x7_32, x7_33, x7_34, x7_35, x7_36, x7_37, x7_38, x7_39, x7_40, x7_41, x7_42, x7_43, x7_44, x7_45, x7_46, x7_47, x7_48, x7_49, x7_50, x7_51, x7_52, x7_53, x7_54, x7_55, x7_56, ↓reduceIte, Option.toList, List.nil_append, List.cons_append, nI_add, pk_mul, n_and, n_or, n_xor, nI_leI, nI_ltI, nI_eq, n_z, uI_s, uI_n, bI_n0, bI_n1, bT, bF, if_true, if_false, not_true, not_false_eq_true, pk_div, pk_rem, Nat.reduceEqDiff, Nat.reduceLeDiff, Nat.reduceLT, Nat.reduceAdd, Nat.reduceMul, Nat.reduceSub, Nat.not_lt_zero, Nat.zero_le, reduceCtorEq, ite_self, n_rem, and_self, and_true, true_and, and_false, false_and, n1, li, m1, m2, ed, dt, n_m1e (show ds A h (A (72 + 2 * i)) < 2 ^ 31 by omega), sd, s1, s2]
      rcases ih (i + 1) (some (.int (nI (ds A h (A (72 + 2 * i)))))) (by omega) ok' with ⟨o, u', q⟩ | ⟨o, q⟩
      · exact Or.inl ⟨o, u', fun Q => (step Q).trans (q Q)⟩
      · exact Or.inr ⟨o, fun Q => (step Q).trans (q Q)⟩
    · have dt := dvD_f c
      refine Or.inr ⟨fun o => c (o i hi5), fun Q => ?_⟩
      rw [x7_16]
      simp (disch := first | assumption | omega | decide) only [x7_17, x7_18, x7_19, x7_20, x7_21, x7_22, x7_23, x7_24, x7_25, x7_26, x7_27, x7_28, x7_29, x7_30, x7_31, x7_32, x7_33, x7_34, ↓reduceIte, Option.toList, List.nil_append, List.cons_append, nI_add, pk_mul, n_and, n_or, n_xor, nI_leI, nI_ltI, nI_eq, n_z, uI_s, uI_n, bI_n0, bI_n1, bT, bF, if_true, if_false, not_true, not_false_eq_true, pk_div, pk_rem, Nat.reduceEqDiff, Nat.reduceLeDiff, Nat.reduceLT, Nat.reduceAdd, Nat.reduceMul, Nat.reduceSub, Nat.not_lt_zero, Nat.zero_le, reduceCtorEq, ite_self, n_rem, and_self, and_true, true_and, and_false, false_and, n1, li, m1, ed, dt]
/-- what weighing lays down of a house -/
def Wgd (I : Nat → Nat → Int32) (A : Nat → Nat) (h : Nat) : Prop := (¬ okH A h ∧ I 81 h = -100 ∧ I 82 h = -1) ∨ (okH A h ∧ ((A 5 = 0 ∧ I 81 h = -100 ∧ I 82 h = nI 0) ∨ (0 < A 5 ∧ I 81 h = shI (sH A h) ∧ I 82 h = nI (eH A h))))
theorem sp_weighOne {I : Nat → Nat → Int32} {h : Nat} (hh : h < 8) (w : Wf A) (nt : Nts I 32 33 34 35 36 37 38 A) (e : ∀ a h, a < 8 → h < 8 → I 73 (a * 8 + h) = dvD (ds A a h)) : ∃ I', (∀ c k, (c ≠ 81 ∧ c ≠ 82) ∨ k ≠ h → I' c k = I c k) ∧ Wgd I' A h ∧ ∀ Q, Rn sc (d + 1) 7 0 [some (.ref 80), some (.int (nI h)), none, none, none, none] [] (K0, I, J, R1 T) Q = Q none (K0, I', J, R1 T) := by
  have w5 : A 5 ≤ 8 := w.1.2.2.2.2.2.1
  obtain ⟨I1, eI⟩ : ∃ X, X = uI (uI I 81 h (-100)) 82 h (-1) := ⟨_, rfl⟩
  have f1 : ∀ c k, (c ≠ 81 ∧ c ≠ 82) ∨ k ≠ h → I1 c k = I c k := fun c k hc => by rw [eI, uI_n (by omega), uI_n (by omega)]
  have g1 : I1 81 h = -100 := by rw [eI, uI_n (by omega), uI_s]
  have g2 : I1 82 h = -1 := by rw [eI, uI_s]
  have nt1 : Nts I1 32 33 34 35 36 37 38 A := Nts_c nt (fun c k hc => f1 c k (by omega)) (fun _ _ => rfl) w.1
  obtain ⟨n1, n2, n3, n4, n5, n6⟩ := nt1
  have nt1 : Nts I1 32 33 34 35 36 37 38 A := ⟨n1, n2, n3, n4, n5, n6⟩
  have e1 : ∀ a h, a < 8 → h < 8 → I1 73 (a * 8 + h) = dvD (ds A a h) := fun a b ha hb => (f1 _ _ (by omega)).trans (e a b ha hb)
  have q0 : ∀ Q, Rn sc (d + 1) 7 0 [some (.ref 80), some (.int (nI h)), none, none, none, none] [] (K0, I, J, R1 T) Q = Rn sc (d + 1) 7 16 [some (.ref 80), some (.int (nI h)), some (.int (shI (mnF 1001000 (vH A h) 0))), some (.int (shI (mxF 999000 (vH A h) 0))), some (.int (nI 0)), none] [] (K0, I1, J, R1 T) Q := by
    intro Q
    rw [eI, show shI (mnF 1001000 (vH A h) 0) = nI 1000 from sh_c1.symm, show shI (mxF 999000 (vH A h) 0) = -1000 from sh_c2.symm]
    simp (disch := first | assumption | omega | decide) only [x7_0, x7_1, x7_2, x7_3, x7_4, x7_5, x7_6, x7_7, x7_8, x7_9, x7_10, x7_11, x7_12, x7_13, x7_14, x7_15]
  rcases wg_loop (sc := sc) (d := d) (J := J) (T := T) hh w nt1 e1 (A 5) 0 none (by omega) (fun i hi => by omega) with ⟨o, u', q⟩ | ⟨o, q⟩
  · by_cases h5 : A 5 = 0
    · refine ⟨uI I1 82 h (nI 0), fun c k hc => (uI_n (by omega)).trans (f1 c k hc), Or.inr ⟨o, Or.inl ⟨h5, (uI_n (by omega)).trans g1, uI_s⟩⟩, fun Q => ?_⟩
      rw [q0, q]
      rw [h5] at n1
      simp (disch := first | assumption | omega | decide) only [x7_57, x7_58, x7_59, x7_60, x7_61, x7_62, x7_63, x7_64, x7_65, x7_66, ↓reduceIte, Option.toList, List.nil_append, List.cons_append, nI_add, pk_mul, n_and, n_or, n_xor, nI_leI, nI_ltI, nI_eq, n_z, uI_s, uI_n, bI_n0, bI_n1, bT, bF, if_true, if_false, not_true, not_false_eq_true, pk_div, pk_rem, Nat.reduceEqDiff, Nat.reduceLeDiff, Nat.reduceLT, Nat.reduceAdd, Nat.reduceMul, Nat.reduceSub, Nat.not_lt_zero, Nat.zero_le, reduceCtorEq, ite_self, n_rem, and_self, and_true, true_and, and_false, false_and, n1]
    · have h5' : 0 < A 5 := by omega
      obtain ⟨b1, b2, b3⟩ := lm_b w h5' o
      obtain ⟨m1, m2, m3⟩ := mn_b (i0 := 1001000) w (by omega) (A 5) (Nat.le_refl _) o
      obtain ⟨m4, m5⟩ := mx_b (i0 := 999000) w (by omega) (A 5) (Nat.le_refl _) o
      have el : mnF 1001000 (vH A h) (A 5) = lH A h := (m3 h5').2
      have em : mxF 999000 (vH A h) (A 5) = mH A h := (m5 h5').2.1
      have es : mH A h - eH A h = sH A h := by unfold eH sH; omega
      have le : eH A h ≤ mH A h := by unfold eH; omega
      have ee : (mH A h - lH A h + 1) / 2 = eH A h := rfl
      refine ⟨uI (uI I1 82 h (nI (eH A h))) 81 h (shI (sH A h)), fun c k hc => by rw [uI_n (by omega), uI_n (by omega)]; exact f1 c k hc, Or.inr ⟨o, Or.inr ⟨h5', uI_s, by rw [uI_n (by omega), uI_s]⟩⟩, fun Q => ?_⟩
      rw [q0, q, el, em]
      simp (disch := first | assumption | omega | decide) only [x7_57, x7_58, x7_59, x7_60, x7_67, x7_68, x7_69, x7_70, x7_71, x7_72, x7_73, x7_74, x7_75, x7_76, x7_77, x7_78, x7_79, x7_80, x7_81, x7_82, x7_83, x7_84, x7_85, x7_86, x7_87, x7_88, ↓reduceIte, Option.toList, List.nil_append, List.cons_append, nI_add, pk_mul, n_and, n_or, n_xor, nI_leI, nI_ltI, nI_eq, n_z, uI_s, uI_n, bI_n0, bI_n1, bT, bF, if_true, if_false, not_true, not_false_eq_true, pk_div, pk_rem, Nat.reduceEqDiff, Nat.reduceLeDiff, Nat.reduceLT, Nat.reduceAdd, Nat.reduceMul, Nat.reduceSub, Nat.not_lt_zero, Nat.zero_le, reduceCtorEq, ite_self, n_rem, and_self, and_true, true_and, and_false, false_and, n1, h5, sh_ss (show mH A h < 2 ^ 30 by omega) (show lH A h < 2 ^ 30 by omega) b2, ee, sh_sn (show mH A h < 2 ^ 30 by omega) le, es]
  · refine ⟨I1, f1, Or.inl ⟨o, g1, g2⟩, fun Q => ?_⟩
    rw [q0, q]
theorem sp_weigh {I : Nat → Nat → Int32} {B : Nat → Nat} (w : WW A B) (cI : CI I A B) : ∃ I', (∀ c k, c ≠ 73 ∧ c ≠ 81 ∧ c ≠ 82 → I' c k = I c k) ∧ (∀ a h, a < 8 → h < 8 → I' 73 (a * 8 + h) = dvD (ds A a h)) ∧ (∀ h, h < 8 → Wgd I' A h) ∧ ∀ Q, Rn sc (d + 2) 6 0 [some (.ref 80), none] [] (K0, I, J, R1 T) Q = Q none (K0, I', J, R1 T) := by
  obtain ⟨I1, k1, f1, q1⟩ := sp_measure (sc := sc) (d := d) (J := J) (T := T) (u1 := none) (u2 := none) (u3 := none) (u4 := none) (u5 := none) w.1 (BsC_of cI)
  obtain ⟨I', ⟨h1, h2⟩, h3⟩ := iterE (fun h I' => (∀ c k, c ≠ 81 ∧ c ≠ 82 → I' c k = I1 c k) ∧ ∀ x, x < h → Wgd I' A x) (fun h I' => fun Q => Rn sc (d + 2) 6 5 [some (.ref 80), some (.int (nI h))] [] (K0, I', J, R1 T) Q) 8 (by
    rintro h I2 hh ⟨f2, g2⟩
    have lh : ¬ 8 ≤ h := by omega
    have nt : Nts I2 32 33 34 35 36 37 38 A := Nts_c cI.2.2.2.2.1 (fun c k hc => (f2 c k (by omega)).trans (f1 c k (by omega))) (fun _ _ => rfl) w.1.1
    obtain ⟨I3, f3, g3, q3⟩ := sp_weighOne (sc := sc) (d := d) (J := J) (T := T) hh w.1 nt (fun a b ha hb => (f2 _ _ (by omega)).trans (k1 a b ha hb))
    refine ⟨I3, ⟨fun c k hc => (f3 c k (Or.inl hc)).trans (f2 c k hc), fun x hx => ?_⟩, funext fun Q => ?_⟩
    · by_cases ex : x = h
      · subst ex
        exact g3
      · have := g2 x (by omega)
        unfold Wgd at this ⊢
        rw [f3 81 x (Or.inr ex), f3 82 x (Or.inr ex)]
        exact this
    · show Rn _ _ _ _ _ _ _ _ = Rn _ _ _ _ _ _ _ _
      rw [x6_5]
      simp (disch := first | assumption | omega | decide) only [x6_6, x6_7, x6_8, x6_9, x6_10, x6_11, x6_12, ↓reduceIte, Option.toList, List.nil_append, List.cons_append, nI_add, pk_mul, n_and, n_or, n_xor, nI_leI, nI_ltI, nI_eq, n_z, uI_s, uI_n, bI_n0, bI_n1, bT, bF, if_true, if_false, not_true, not_false_eq_true, pk_div, pk_rem, Nat.reduceEqDiff, Nat.reduceLeDiff, Nat.reduceLT, Nat.reduceAdd, Nat.reduceMul, Nat.reduceSub, Nat.not_lt_zero, Nat.zero_le, reduceCtorEq, ite_self, n_rem, and_self, and_true, true_and, and_false, false_and, lh, q3]) I1 ⟨fun _ _ _ => rfl, fun x hx => by omega⟩
  refine ⟨I', fun c k hc => (h1 c k (by omega)).trans (f1 c k (by omega)), fun a b ha hb => (h1 _ _ (by omega)).trans (k1 a b ha hb), h2, fun Q => ?_⟩
  have h3' := congrFun h3 Q
  simp (disch := first | assumption | omega | decide) only [x6_0, x6_1, x6_2, x6_3, x6_4, ↓reduceIte, Option.toList, List.nil_append, List.cons_append, nI_add, pk_mul, n_and, n_or, n_xor, nI_leI, nI_ltI, nI_eq, n_z, uI_s, uI_n, bI_n0, bI_n1, bT, bF, if_true, if_false, not_true, not_false_eq_true, pk_div, pk_rem, Nat.reduceEqDiff, Nat.reduceLeDiff, Nat.reduceLT, Nat.reduceAdd, Nat.reduceMul, Nat.reduceSub, Nat.not_lt_zero, Nat.zero_le, reduceCtorEq, ite_self, n_rem, and_self, and_true, true_and, and_false, false_and, q1]
  refine Eq.trans h3' ?_
  show Rn _ _ _ _ _ _ _ _ = _
  rw [x6_5]
  simp (disch := first | assumption | omega | decide) only [x6_6, x6_7, x6_13, ↓reduceIte, Option.toList, List.nil_append, List.cons_append, nI_add, pk_mul, n_and, n_or, n_xor, nI_leI, nI_ltI, nI_eq, n_z, uI_s, uI_n, bI_n0, bI_n1, bT, bF, if_true, if_false, not_true, not_false_eq_true, pk_div, pk_rem, Nat.reduceEqDiff, Nat.reduceLeDiff, Nat.reduceLT, Nat.reduceAdd, Nat.reduceMul, Nat.reduceSub, Nat.not_lt_zero, Nat.zero_le, reduceCtorEq, ite_self, n_rem, and_self, and_true, true_and, and_false, false_and, Nat.le_refl]
/-- the reference's side -/
theorem ss_loop {h : Nat} (hh : h < 8) (w : Wf A) : ∀ (m i : Nat) (I : Nat → Nat → Int32) (u : Option Value), i + m = A 5 → okW A h i → AtM I 90 A → (∀ g, g < 8 → I 99 g = dvD (ds A h g)) → I 89 30 = shI (mnF 2000000 (vH A h) i) → I 89 31 = shI (mxF 0 (vH A h) i) → ∃ I', (∀ c k, c ≠ 89 ∨ (k ≠ 30 ∧ k ≠ 31) → I' c k = I c k) ∧ ((okH A h ∧ I' 89 30 = shI (lH A h) ∧ I' 89 31 = shI (mH A h) ∧ ∃ u', ∀ Q, Rn sc d 289 13 [some (.ref 89), some (.int (nI h)), some (.int (nI (72 + 2 * i))), u] [] (K0, I, J, R1 T) Q = Rn sc d 289 86 [some (.ref 89), some (.int (nI h)), some (.int (nI (72 + 2 * A 5))), u'] [] (K0, I', J, R1 T) Q) ∨ (¬ okH A h ∧ ∀ Q, Rn sc d 289 13 [some (.ref 89), some (.int (nI h)), some (.int (nI (72 + 2 * i))), u] [] (K0, I, J, R1 T) Q = Q (some (.int (nI 0))) (K0, I', J, R1 T))) := by
  have w5 : A 5 ≤ 8 := w.1.2.2.2.2.2.1
  intro m
  induction m with
  | zero =>
    intro i I u hi ok mA k1 g1 g2
    obtain rfl : i = A 5 := by omega
    have m' : ∀ k, k < 1799 → I 90 k = nI (A k) := mA
    refine ⟨I, fun _ _ _ => rfl, Or.inl ⟨ok, g1, g2, u, fun Q => ?_⟩⟩
    rw [x289_13]
    simp (disch := first | assumption | omega | decide) only [x289_14, x289_15, x289_16, x289_17, x289_18, x289_19, x289_20, x289_21, x289_22, ↓reduceIte, Option.toList, List.nil_append, List.cons_append, nI_add, pk_mul, n_and, n_or, n_xor, nI_leI, nI_ltI, nI_eq, n_z, uI_s, uI_n, bI_n0, bI_n1, bT, bF, if_true, if_false, not_true, not_false_eq_true, pk_div, pk_rem, Nat.reduceEqDiff, Nat.reduceLeDiff, Nat.reduceLT, Nat.reduceAdd, Nat.reduceMul, Nat.reduceSub, Nat.not_lt_zero, Nat.zero_le, reduceCtorEq, ite_self, n_rem, and_self, and_true, true_and, and_false, false_and, m', Nat.le_refl]
  | succ m ih =>
    intro i I u hi ok mA k1 g1 g2
    have m' : ∀ k, k < 1799 → I 90 k = nI (A k) := mA
    have hi5 : i < A 5 := by omega
    have li : ¬ 72 + 2 * A 5 ≤ 72 + 2 * i := by omega
    have ei : 72 + 2 * (i + 1) = 72 + 2 * i + 2 := by omega
    obtain ⟨v1, v2⟩ := w.2.2.2.1.1 i hi5
    have kd := k1 _ v1
    by_cases c : ds A h (A (72 + 2 * i)) < 8
    · have dt := dvD_t c
      rw [dt] at kd
      have ok' : okW A h (i + 1) := fun j hj => by
        by_cases e : j = i
        · rw [e]; exact c
        · exact ok j (by omega)
      have hv := vH_b (h := h) w hi5 c
      obtain ⟨b1, b2, b3⟩ := mn_b (i0 := 2000000) w (by omega) i (by omega) ok
      obtain ⟨b4, b5⟩ := mx_b (i0 := 0) w (by omega) i (by omega) ok
      have sd : nI (A (72 + 2 * i + 1)) - nI (ds A h (A (72 + 2 * i))) = shI (vH A h i) := sh_d (by omega) (by omega)
      have l1 := sh_le (a := mnF 2000000 (vH A h) i) (b := vH A h i) (by omega) (by omega)
      have l2 := sh_le (a := vH A h i) (b := mxF 0 (vH A h) i) (by omega) (by omega)
      obtain ⟨I1, eI⟩ : ∃ X, X = uI (uI I 89 30 (shI (mnF 2000000 (vH A h) (i + 1)))) 89 31 (shI (mxF 0 (vH A h) (i + 1))) := ⟨_, rfl⟩
      have f1 : ∀ c k, c ≠ 89 ∨ (k ≠ 30 ∧ k ≠ 31) → I1 c k = I c k := fun c k hc => by rw [eI, uI_n (by omega), uI_n (by omega)]
      have step : ∀ Q, Rn sc d 289 13 [some (.ref 89), some (.int (nI h)), some (.int (nI (72 + 2 * i))), u] [] (K0, I, J, R1 T) Q = Rn sc d 289 13 [some (.ref 89), some (.int (nI h)), some (.int (nI (72 + 2 * (i + 1)))), some (.int (nI (ds A h (A (72 + 2 * i)))))] [] (K0, I1, J, R1 T) Q := by
        intro Q
        rw [eI, x289_13, ei, mnF, mxF]
        by_cases c1 : vH A h i < mnF 2000000 (vH A h) i
        · have c1' : ¬ mnF 2000000 (vH A h) i ≤ vH A h i := by omega
          rw [if_pos c1]
          by_cases c2 : mxF 0 (vH A h) i < vH A h i
          · have c2' : ¬ vH A h i ≤ mxF 0 (vH A h) i := by omega
            rw [if_pos c2]
            simp (disch := first | assumption | omega | decide) only [x289_14, x289_15, x289_16, x289_17, x289_18, x289_19, x289_20, x289_21, x289_22, x289_23, x289_24, x289_25, x289_26, x289_27, x289_28, x289_29, x289_30, x289_31, x289_32, x289_33, x289_34, x289_35, x289_36, x289_37, x289_38, x289_39, x289_40, x289_41, x289_42, x289_43, x289_44, x289_45, x289_46, x289_47, x289_48, x289_49, x289_50, x289_51, x289_52, x289_53, x289_54, x289_55, x289_56, x289_57, x289_58, x289_59, x289_60, x289_61, x289_62, x289_63, x289_64, x289_65, x289_66, x289_67, x289_68, x289_69, x289_70, x289_71, x289_72, x289_73, x289_74, x289_75, x289_76, x289_77, x289_78, x289_79, x289_80, x289_81, x289_82, x289_83, x289_84, x289_85, ↓reduceIte, Option.toList, List.nil_append, List.cons_append, nI_add, pk_mul, n_and, n_or, n_xor, nI_leI, nI_ltI, nI_eq, n_z, uI_s, uI_n, bI_n0, bI_n1, bT, bF, if_true, if_false, not_true, not_false_eq_true, pk_div, pk_rem, Nat.reduceEqDiff, Nat.reduceLeDiff, Nat.reduceLT, Nat.reduceAdd, Nat.reduceMul, Nat.reduceSub, Nat.not_lt_zero, Nat.zero_le, reduceCtorEq, ite_self, n_rem, and_self, and_true, true_and, and_false, false_and, m', li, kd, n_m1e (show ds A h (A (72 + 2 * i)) < 2 ^ 31 by omega), sd, g1, g2, l1, l2, c1', c2']
          · have c2' : vH A h i ≤ mxF 0 (vH A h) i := by omega
            rw [if_neg c2]
            simp (disch := first | assumption | omega | decide) only [x289_14, x289_15, x289_16, x289_17, x289_18, x289_19, x289_20, x289_21, x289_22, x289_23, x289_24, x289_25, x289_26, x289_27, x289_28, x289_29, x289_30, x289_31, x289_32, x289_33, x289_34, x289_35, x289_36, x289_37, x289_38, x289_39, x289_40, x289_41, x289_42, x289_43, x289_44, x289_45, x289_46, x289_47, x289_48, x289_49, x289_50, x289_51, x289_52, x289_53, x289_54, x289_55, x289_56, x289_57, x289_58, x289_59, x289_60, x289_61, x289_62, x289_63, x289_64, x289_65, x289_66, x289_67, x289_68, x289_69, x289_70, x289_71, x289_72, x289_73, x289_74, x289_75, x289_76, x289_77, x289_78, x289_79, x289_80, x289_81, x289_82, x289_83, x289_84, x289_85, ↓reduceIte, Option.toList, List.nil_append, List.cons_append, nI_add, pk_mul, n_and, n_or, n_xor, nI_leI, nI_ltI, nI_eq, n_z, uI_s, uI_n, bI_n0, bI_n1, bT, bF, if_true, if_false, not_true, not_false_eq_true, pk_div, pk_rem, Nat.reduceEqDiff, Nat.reduceLeDiff, Nat.reduceLT, Nat.reduceAdd, Nat.reduceMul, Nat.reduceSub, Nat.not_lt_zero, Nat.zero_le, reduceCtorEq, ite_self, n_rem, and_self, and_true, true_and, and_false, false_and, m', li, kd, n_m1e (show ds A h (A (72 + 2 * i)) < 2 ^ 31 by omega), sd, g1, g2, l1, l2, c1', c2']
        · have c1' : mnF 2000000 (vH A h) i ≤ vH A h i := by omega
          rw [if_neg c1]
          by_cases c2 : mxF 0 (vH A h) i < vH A h i
          · have c2' : ¬ vH A h i ≤ mxF 0 (vH A h) i := by omega
            rw [if_pos c2]
            simp (disch := first | assumption | omega | decide) only [x289_14, x289_15, x289_16, x289_17, x289_18, x289_19, x289_20, x289_21, x289_22, x289_23, x289_24, x289_25, x289_26, x289_27, x289_28, x289_29, x289_30, x289_31, x289_32, x289_33, x289_34, x289_35, x289_36, x289_37, x289_38, x289_39, x289_40, x289_41, x289_42, x289_43, x289_44, x289_45, x289_46, x289_47, x289_48, x289_49, x289_50, x289_51, x289_52, x289_53, x289_54, x289_55, x289_56, x289_57, x289_58, x289_59, x289_60, x289_61, x289_62, x289_63, x289_64, x289_65, x289_66, x289_67, x289_68, x289_69, x289_70, x289_71, x289_72, x289_73, x289_74, x289_75, x289_76, x289_77, x289_78, x289_79, x289_80, x289_81, x289_82, x289_83, x289_84, x289_85, ↓reduceIte, Option.toList, List.nil_append, List.cons_append, nI_add, pk_mul, n_and, n_or, n_xor, nI_leI, nI_ltI, nI_eq, n_z, uI_s, uI_n, bI_n0, bI_n1, bT, bF, if_true, if_false, not_true, not_false_eq_true, pk_div, pk_rem, Nat.reduceEqDiff, Nat.reduceLeDiff, Nat.reduceLT, Nat.reduceAdd, Nat.reduceMul, Nat.reduceSub, Nat.not_lt_zero, Nat.zero_le, reduceCtorEq, ite_self, n_rem, and_self, and_true, true_and, and_false, false_and, m', li, kd, n_m1e (show ds A h (A (72 + 2 * i)) < 2 ^ 31 by omega), sd, g1, g2, l1, l2, c1', c2']
          · have c2' : vH A h i ≤ mxF 0 (vH A h) i := by omega
            rw [if_neg c2]
            simp (disch := first | assumption | omega | decide) only [x289_14, x289_15, x289_16, x289_17, x289_18, x289_19, x289_20, x289_21, x289_22, x289_23, x289_24, x289_25, x289_26, x289_27, x289_28, x289_29, x289_30, x289_31, x289_32, x289_33, x289_34, x289_35, x289_36, x289_37, x289_38, x289_39, x289_40, x289_41, x289_42, x289_43, x289_44, x289_45, x289_46, x289_47, x289_48, x289_49, x289_50, x289_51, x289_52, x289_53, x289_54, x289_55, x289_56, x289_57, x289_58, x289_59, x289_60, x289_61, x289_62, x289_63, x289_64, x289_65, x289_66, x289_67, x289_68, x289_69, x289_70, x289_71, x289_72, x289_73, x289_74, x289_75, x289_76, x289_77, x289_78, x289_79, x289_80, x289_81, x289_82, x289_83, x289_84, x289_85, ↓reduceIte, Option.toList, List.nil_append, List.cons_append, nI_add, pk_mul, n_and, n_or, n_xor, nI_leI, nI_ltI, nI_eq, n_z, uI_s, uI_n, bI_n0, bI_n1, bT, bF, if_true, if_false, not_true, not_false_eq_true, pk_div, pk_rem, Nat.reduceEqDiff, Nat.reduceLeDiff, Nat.reduceLT, Nat.reduceAdd, Nat.reduceMul, Nat.reduceSub, Nat.not_lt_zero, Nat.zero_le, reduceCtorEq, ite_self, n_rem, and_self, and_true, true_and, and_false, false_and, m', li, kd, n_m1e (show ds A h (A (72 + 2 * i)) < 2 ^ 31 by omega), sd, g1, g2, l1, l2, c1', c2']
      obtain ⟨I2, f2, r⟩ := ih (i + 1) I1 (some (.int (nI (ds A h (A (72 + 2 * i)))))) (by omega) ok' (AtM_c mA (fun k => f1 _ _ (by omega))) (fun g hg => (f1 _ _ (by omega)).trans (k1 g hg)) (by rw [eI, uI_n (by omega), uI_s]) (by rw [eI, uI_s])
      refine ⟨I2, fun c k hc => (f2 c k hc).trans (f1 c k hc), ?_⟩
      rcases r with ⟨o, r1, r2, u', q⟩ | ⟨o, q⟩
      · exact Or.inl ⟨o, r1, r2, u', fun Q => (step Q).trans (q Q)⟩
      · exact Or.inr ⟨o, fun Q => (step Q).trans (q Q)⟩
    · have dt := dvD_f c
      rw [dt] at kd
      refine ⟨I, fun _ _ _ => rfl, Or.inr ⟨fun o => c (o i hi5), fun Q => ?_⟩⟩
      rw [x289_13]
      simp (disch := first | assumption | omega | decide) only [x289_14, x289_15, x289_16, x289_17, x289_18, x289_19, x289_20, x289_21, x289_22, x289_23, x289_24, x289_25, x289_26, x289_27, x289_28, x289_29, x289_30, x289_31, x289_32, x289_33, x289_34, x289_35, ↓reduceIte, Option.toList, List.nil_append, List.cons_append, nI_add, pk_mul, n_and, n_or, n_xor, nI_leI, nI_ltI, nI_eq, n_z, uI_s, uI_n, bI_n0, bI_n1, bT, bF, if_true, if_false, not_true, not_false_eq_true, pk_div, pk_rem, Nat.reduceEqDiff, Nat.reduceLeDiff, Nat.reduceLT, Nat.reduceAdd, Nat.reduceMul, Nat.reduceSub, Nat.not_lt_zero, Nat.zero_le, reduceCtorEq, ite_self, n_rem, and_self, and_true, true_and, and_false, false_and, m', li, kd]
theorem sp_isSince {I : Nat → Nat → Int32} {h : Nat} (hh : h < 8) (w : Wf A) (mA : AtM I 90 A) : ∃ I', (∀ c k, c ≠ 99 ∧ (c ≠ 89 ∨ (k ≠ 30 ∧ k ≠ 31)) → I' c k = I c k) ∧ (∀ g, g < 8 → I' 99 g = dvD (ds A h g)) ∧ ((okH A h ∧ 0 < A 5 ∧ I' 89 30 = shI (lH A h) ∧ I' 89 31 = shI (mH A h) ∧ ∀ Q, Rn sc (d + 2) 289 0 [some (.ref 89), some (.int (nI h)), none, none] [] (K0, I, J, R1 T) Q = Q (some (.int (nI 1))) (K0, I', J, R1 T)) ∨ (¬ (okH A h ∧ 0 < A 5) ∧ ∀ Q, Rn sc (d + 2) 289 0 [some (.ref 89), some (.int (nI h)), none, none] [] (K0, I, J, R1 T) Q = Q (some (.int (nI 0))) (K0, I', J, R1 T))) := by
  have w5 : A 5 ≤ 8 := w.1.2.2.2.2.2.1
  obtain ⟨I1, k1, f1, q1⟩ := sp_lay (sc := sc) (d := d) (J := J) (T := T) hh (show 255 < 256 by decide) w mA
  obtain ⟨I2, eI⟩ : ∃ X, X = uI (uI I1 89 30 (nI 1000000)) 89 31 (-1000000) := ⟨_, rfl⟩
  have f2 : ∀ c k, c ≠ 89 ∨ (k ≠ 30 ∧ k ≠ 31) → I2 c k = I1 c k := fun c k hc => by rw [eI, uI_n (by omega), uI_n (by omega)]
  have mA2 : AtM I2 90 A := AtM_c mA (fun k => (f2 _ _ (by omega)).trans (f1 _ _ (by omega)))
  have k2 : ∀ g, g < 8 → I2 99 g = dvD (ds A h g) := fun g hg => (f2 _ _ (by omega)).trans (k1 g hg)
  have q0 : ∀ Q, Rn sc (d + 2) 289 0 [some (.ref 89), some (.int (nI h)), none, none] [] (K0, I, J, R1 T) Q = Rn sc (d + 2) 289 13 [some (.ref 89), some (.int (nI h)), some (.int (nI (72 + 2 * 0))), none] [] (K0, I2, J, R1 T) Q := by
    intro Q
    rw [eI]
    simp (disch := first | assumption | omega | decide) only [x289_0, x289_1, x289_2, x289_3, x289_4, x289_5, x289_6, x289_7, x289_8, x289_9, x289_10, x289_11, x289_12, ↓reduceIte, Option.toList, List.nil_append, List.cons_append, nI_add, pk_mul, n_and, n_or, n_xor, nI_leI, nI_ltI, nI_eq, n_z, uI_s, uI_n, bI_n0, bI_n1, bT, bF, if_true, if_false, not_true, not_false_eq_true, pk_div, pk_rem, Nat.reduceEqDiff, Nat.reduceLeDiff, Nat.reduceLT, Nat.reduceAdd, Nat.reduceMul, Nat.reduceSub, Nat.not_lt_zero, Nat.zero_le, reduceCtorEq, ite_self, n_rem, and_self, and_true, true_and, and_false, false_and, q1]
  obtain ⟨I3, f3, r⟩ := ss_loop (sc := sc) (d := d + 2) (J := J) (T := T) hh w (A 5) 0 I2 none (by omega) (fun i hi => by omega) mA2 k2 (by rw [eI, uI_n (by omega), uI_s]; exact sh_c3) (by rw [eI, uI_s]; exact sh_c4)
  have e5 : I3 90 5 = nI (A 5) := (f3 _ _ (by omega)).trans (mA2 5 (by decide))
  refine ⟨I3, fun c k hc => (f3 c k (by omega)).trans ((f2 c k (by omega)).trans (f1 c k (by omega))), fun g hg => (f3 _ _ (by omega)).trans (k2 g hg), ?_⟩
  rcases r with ⟨o, r1, r2, u', q⟩ | ⟨o, q⟩
  · by_cases h5 : A 5 = 0
    · refine Or.inr ⟨fun h => by omega, fun Q => ?_⟩
      rw [q0, q]
      rw [h5] at e5
      simp (disch := first | assumption | omega | decide) only [x289_86, x289_87, x289_88, x289_89, x289_90, x289_91, x289_92, x289_93, x289_94, ↓reduceIte, Option.toList, List.nil_append, List.cons_append, nI_add, pk_mul, n_and, n_or, n_xor, nI_leI, nI_ltI, nI_eq, n_z, uI_s, uI_n, bI_n0, bI_n1, bT, bF, if_true, if_false, not_true, not_false_eq_true, pk_div, pk_rem, Nat.reduceEqDiff, Nat.reduceLeDiff, Nat.reduceLT, Nat.reduceAdd, Nat.reduceMul, Nat.reduceSub, Nat.not_lt_zero, Nat.zero_le, reduceCtorEq, ite_self, n_rem, and_self, and_true, true_and, and_false, false_and, e5, Nat.le_refl]
    · have h5' : ¬ A 5 ≤ 0 := by omega
      refine Or.inl ⟨o, by omega, r1, r2, fun Q => ?_⟩
      rw [q0, q]
      simp (disch := first | assumption | omega | decide) only [x289_86, x289_87, x289_88, x289_89, x289_90, x289_91, x289_92, x289_93, x289_94, ↓reduceIte, Option.toList, List.nil_append, List.cons_append, nI_add, pk_mul, n_and, n_or, n_xor, nI_leI, nI_ltI, nI_eq, n_z, uI_s, uI_n, bI_n0, bI_n1, bT, bF, if_true, if_false, not_true, not_false_eq_true, pk_div, pk_rem, Nat.reduceEqDiff, Nat.reduceLeDiff, Nat.reduceLT, Nat.reduceAdd, Nat.reduceMul, Nat.reduceSub, Nat.not_lt_zero, Nat.zero_le, reduceCtorEq, ite_self, n_rem, and_self, and_true, true_and, and_false, false_and, e5, h5']
  · refine Or.inr ⟨fun h => o h.1, fun Q => ?_⟩
    rw [q0, q]
theorem sp_now {I : Nat → Nat → Int32} {h : Nat} (w : Wf A) (h5 : 0 < A 5) (o : okH A h) (r1 : I 89 30 = shI (lH A h)) (r2 : I 89 31 = shI (mH A h)) : ∀ Q, Rn sc d 290 0 [some (.ref 89)] [] (K0, I, J, R1 T) Q = Q (some (.int (shI (sH A h)))) (K0, I, J, R1 T) := by
  intro Q
  obtain ⟨b1, b2, b3⟩ := lm_b w h5 o
  have e1 : sH A h = (lH A h + mH A h - 1998000) / 2 + 999000 := by unfold sH; omega
  simp (disch := first | assumption | omega | decide) only [x290_0, x290_1, x290_2, x290_3, x290_4, x290_5, x290_6, x290_7, x290_8, x290_9, x290_10, x290_11, ↓reduceIte, Option.toList, List.nil_append, List.cons_append, nI_add, pk_mul, n_and, n_or, n_xor, nI_leI, nI_ltI, nI_eq, n_z, uI_s, uI_n, bI_n0, bI_n1, bT, bF, if_true, if_false, not_true, not_false_eq_true, pk_div, pk_rem, Nat.reduceEqDiff, Nat.reduceLeDiff, Nat.reduceLT, Nat.reduceAdd, Nat.reduceMul, Nat.reduceSub, Nat.not_lt_zero, Nat.zero_le, reduceCtorEq, ite_self, n_rem, and_self, and_true, true_and, and_false, false_and, r1, r2, sh_now (show lH A h < 2 ^ 29 by omega) (show mH A h < 2 ^ 29 by omega) (by omega), sh_fin (show (lH A h + mH A h - 1998000) / 2 < 2 ^ 29 by omega) e1]
end Since
section Since2
variable {TX : (Nat → Nat → Int32) → Nat → Prop} {sc : Sc} {d : Nat}
theorem jt_since {x : Int32} : Jt TX sc (d + 3) 149 291 [some (.ref 0), some (.int x)] [some (.ref 89), some (.int x)] := by
  intro A B M w _
  have w' := w
  obtain ⟨wA, wB, wt⟩ := w
  have w5 : A 5 ≤ 8 := wA.1.2.2.2.2.2.1
  by_cases hx : inR x 8
  · obtain ⟨h, hh, rfl⟩ := hx
    have dok : Decidable (okH A h) := Classical.propDecidable _
    refine ⟨if okH A h ∧ 0 < A 5 then shI (sH A h) else -100, A, B, w', Nat.le_refl _, ?_, ?_⟩
    · intro I J T cI _
      obtain ⟨n1, n2, n3, n4, n5, n6⟩ := cI.2.2.2.2.1
      by_cases h5 : A 5 = 0
      · refine ⟨I, fun _ _ _ => rfl, cI, fun Q => ?_⟩
        rw [if_neg (fun h => by omega)]
        rw [h5] at n1
        simp (disch := first | assumption | omega | decide) only [x149_0, x149_1, x149_2, x149_3, x149_4, x149_5, x149_6, x149_7, x149_8, x149_9, x149_10, x149_11, x149_12, x149_13, x149_14, x149_15, x149_16, x149_17, ↓reduceIte, Option.toList, List.nil_append, List.cons_append, nI_add, pk_mul, n_and, n_or, n_xor, nI_leI, nI_ltI, nI_eq, n_z, uI_s, uI_n, bI_n0, bI_n1, bT, bF, if_true, if_false, not_true, not_false_eq_true, pk_div, pk_rem, Nat.reduceEqDiff, Nat.reduceLeDiff, Nat.reduceLT, Nat.reduceAdd, Nat.reduceMul, Nat.reduceSub, Nat.not_lt_zero, Nat.zero_le, reduceCtorEq, ite_self, n_rem, and_self, and_true, true_and, and_false, false_and, sp_houC_t, n1]
      · obtain ⟨I1, f1, k1, g1, q1⟩ := sp_weigh (sc := sc) (d := d) (J := J) (T := T) w' cI
        refine ⟨I1, fun c k hc => f1 c k (by omega), CI_c w' cI (fun c k hc => f1 c k (by omega)), fun Q => ?_⟩
        have ev : I1 81 h = if okH A h ∧ 0 < A 5 then shI (sH A h) else -100 := by
          rcases g1 h hh with ⟨o, e, -⟩ | ⟨o, ⟨z, -, -⟩ | ⟨p, e, -⟩⟩
          · rw [if_neg (fun h => o h.1), e]
          · exact absurd z h5
          · rw [if_pos ⟨o, p⟩, e]
        rw [← ev]
        simp (disch := first | assumption | omega | decide) only [x149_0, x149_1, x149_2, x149_3, x149_4, x149_5, x149_6, x149_7, x149_8, x149_9, x149_10, x149_11, x149_12, x149_13, x149_14, x149_15, x149_16, x149_17, ↓reduceIte, Option.toList, List.nil_append, List.cons_append, nI_add, pk_mul, n_and, n_or, n_xor, nI_leI, nI_ltI, nI_eq, n_z, uI_s, uI_n, bI_n0, bI_n1, bT, bF, if_true, if_false, not_true, not_false_eq_true, pk_div, pk_rem, Nat.reduceEqDiff, Nat.reduceLeDiff, Nat.reduceLT, Nat.reduceAdd, Nat.reduceMul, Nat.reduceSub, Nat.not_lt_zero, Nat.zero_le, reduceCtorEq, ite_self, n_rem, and_self, and_true, true_and, and_false, false_and, sp_houC_t, n1, h5, q1]
    · intro I J T mI _
      obtain ⟨I1, f1, k1, r⟩ := sp_isSince (sc := sc) (d := d) (J := J) (T := T) hh wA mI.1
      refine ⟨I1, J, ⟨fun c k hc => f1 c k (by omega), fun k hk => f1 _ _ (by omega)⟩, MI_c mI (fun c k hc => f1 c k (by omega)) (f1 _ _ (by omega)), fun Q => ?_⟩
      rcases r with ⟨o, p, r1, r2, q⟩ | ⟨o, q⟩
      · rw [if_pos ⟨o, p⟩]
        simp (disch := first | assumption | omega | decide) only [x291_0, x291_1, x291_2, x291_3, x291_4, x291_5, x291_6, x291_7, x291_8, x291_9, x291_10, x291_11, ↓reduceIte, Option.toList, List.nil_append, List.cons_append, nI_add, pk_mul, n_and, n_or, n_xor, nI_leI, nI_ltI, nI_eq, n_z, uI_s, uI_n, bI_n0, bI_n1, bT, bF, if_true, if_false, not_true, not_false_eq_true, pk_div, pk_rem, Nat.reduceEqDiff, Nat.reduceLeDiff, Nat.reduceLT, Nat.reduceAdd, Nat.reduceMul, Nat.reduceSub, Nat.not_lt_zero, Nat.zero_le, reduceCtorEq, ite_self, n_rem, and_self, and_true, true_and, and_false, false_and, sp_houM_t, q, sp_now wA p o r1 r2]
      · rw [if_neg o]
        simp (disch := first | assumption | omega | decide) only [x291_0, x291_1, x291_2, x291_3, x291_4, x291_5, x291_6, x291_7, x291_8, x291_9, x291_10, x291_11, ↓reduceIte, Option.toList, List.nil_append, List.cons_append, nI_add, pk_mul, n_and, n_or, n_xor, nI_leI, nI_ltI, nI_eq, n_z, uI_s, uI_n, bI_n0, bI_n1, bT, bF, if_true, if_false, not_true, not_false_eq_true, pk_div, pk_rem, Nat.reduceEqDiff, Nat.reduceLeDiff, Nat.reduceLT, Nat.reduceAdd, Nat.reduceMul, Nat.reduceSub, Nat.not_lt_zero, Nat.zero_le, reduceCtorEq, ite_self, n_rem, and_self, and_true, true_and, and_false, false_and, sp_houM_t, q]
  · refine jtR w' (-100) ?_ ?_ <;> intro I J T Q hI
    · simp (disch := first | assumption | omega | decide) only [x149_0, x149_1, x149_2, x149_3, x149_4, x149_5, x149_6, x149_7, x149_8, x149_9, x149_10, x149_11, x149_12, x149_13, x149_14, x149_15, x149_16, x149_17, ↓reduceIte, Option.toList, List.nil_append, List.cons_append, nI_add, pk_mul, n_and, n_or, n_xor, nI_leI, nI_ltI, nI_eq, n_z, uI_s, uI_n, bI_n0, bI_n1, bT, bF, if_true, if_false, not_true, not_false_eq_true, pk_div, pk_rem, Nat.reduceEqDiff, Nat.reduceLeDiff, Nat.reduceLT, Nat.reduceAdd, Nat.reduceMul, Nat.reduceSub, Nat.not_lt_zero, Nat.zero_le, reduceCtorEq, ite_self, n_rem, and_self, and_true, true_and, and_false, false_and, sp_houC_f hx]
    · simp (disch := first | assumption | omega | decide) only [x291_0, x291_1, x291_2, x291_3, x291_4, x291_5, x291_6, x291_7, x291_8, x291_9, x291_10, x291_11, ↓reduceIte, Option.toList, List.nil_append, List.cons_append, nI_add, pk_mul, n_and, n_or, n_xor, nI_leI, nI_ltI, nI_eq, n_z, uI_s, uI_n, bI_n0, bI_n1, bT, bF, if_true, if_false, not_true, not_false_eq_true, pk_div, pk_rem, Nat.reduceEqDiff, Nat.reduceLeDiff, Nat.reduceLT, Nat.reduceAdd, Nat.reduceMul, Nat.reduceSub, Nat.not_lt_zero, Nat.zero_le, reduceCtorEq, ite_self, n_rem, and_self, and_true, true_and, and_false, false_and, sp_houM_f hx]
end Since2
