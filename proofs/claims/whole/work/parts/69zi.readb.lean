/-! the class's reader: its state, and its small steps -/
abbrev Ss := Sum (Nat × Nat) (List Nat × Nat)
def CdC (I : Nat → Nat → Int32) (t : Nat) (cs : List Nat) : Prop := I (47 + 5 * t) 1 = nI cs.length ∧ ∀ j, j < cs.length → I (48 + 5 * t) j = nI (cs.getD j 0)
def DdC (I : Nat → Nat → Int32) (t f x : Nat) : Prop := I 67 2 = nI f ∧ 0 < f ∧ f < 7 ∧ I 67 3 = nI x ∧ (∃ u, u ≤ 300 ∧ I (47 + 5 * t) 1 = nI u) ∧ ∃ κ, κ < 64 ∧ I 67 6 = nI κ
def LvS (I : Nat → Nat → Int32) (t : Nat) (b : Nat → Nat) (n L : Nat) (cs : List Nat) (p : Nat) : Prop := TpC I b n ∧ p ≤ n ∧ TkC I b n p ∧ I 67 2 = nI 0 ∧ I 67 8 = nI L ∧ CdC I t cs ∧ cs.length ≤ tS b n p ∧ I 67 3 = -1
def StC (I : Nat → Nat → Int32) (t : Nat) (b : Nat → Nat) (n L : Nat) : Ss → Prop
  | .inl (f, x) => DdC I t f x
  | .inr (cs, p) => LvS I t b n L cs p
def ap (r : Nat → Rs) : Ss → Ss
  | .inl e => .inl e
  | .inr (cs, p) => match r p with
    | .inl e => .inl e
    | .inr (c, p') => .inr (cs ++ c.1, p')
/-- all but the reader's token and fault, and the code of the text t -/
def FrZ (t : Nat) (I I' : Nat → Nat → Int32) : Prop := ∀ c k, (c ≠ 67 ∨ k < 2 ∨ 7 < k) → c ≠ 48 + 5 * t → (c ≠ 47 + 5 * t ∨ k ≠ 1) → I' c k = I c k
theorem FrZ_r {t : Nat} {I : Nat → Nat → Int32} : FrZ t I I := fun _ _ _ _ _ => rfl
theorem FrZ_t {t : Nat} {I I' I'' : Nat → Nat → Int32} (h : FrZ t I I') (h' : FrZ t I' I'') : FrZ t I I'' := fun c k a1 a2 a3 => (h' c k a1 a2 a3).trans (h c k a1 a2 a3)
theorem FrZ_f {t : Nat} {I I' : Nat → Nat → Int32} (h : FrT I I') : FrZ t I I' := fun c k a1 _ _ => h c k (by omega)
theorem FrZ_u {t k : Nat} {I : Nat → Nat → Int32} {v : Int32} (hk : 2 ≤ k ∧ k ≤ 7) : FrZ t I (uI I 67 k v) := fun c j a1 _ _ => uI_n (by omega)
theorem tK_lt {b : Nat → Nat} {n p : Nat} : tK b n p < 44 := by
  unfold tK kdq
  have h1 : wK b (tS b n p) (wlN isL b n (tS b n p)) < 44 := by
    unfold wK
    split <;> omega
  have h2 := sK_r (b (tS b n p))
  repeat' split
  all_goals omega
def MS (sc : Sc) (e : Nat) (T' : Option Nat) (t : Nat) (b : Nat → Nat) (n L meth : Nat) (loc : Lo) (r : Nat → Rs) : Prop := ∀ (I : Nat → Nat → Int32) (J : Nat → Nat → Int64) (st : Ss), StC I t b n L st → ∃ I', FrZ t I I' ∧ StC I' t b n L (ap r st) ∧ ∀ Q, Rn sc e meth 0 loc [] (K0, I, J, R1 T') Q = Q none (K0, I', J, R1 T')
section ReadB
variable {sc : Sc} {d : Nat} {J : Nat → Nat → Int64} {T : Option Nat} {b : Nat → Nat} {n L t : Nat} {I : Nat → Nat → Int32}
theorem sp_failD {f x w : Nat} (h : DdC I t f x) : ∀ Q, Rn sc d 32 0 [some (.ref 67), some (.int (nI w))] [] (K0, I, J, R1 T) Q = Q none (K0, I, J, R1 T) := by
  intro Q
  obtain ⟨h2, h0, h7, -⟩ := h
  have f0 : ¬ f = 0 := by omega
  simp (disch := first | assumption | omega | decide) only [x32_0, x32_1, x32_2, x32_3, x32_4, x32_5, x32_6, x32_7, x32_8, x32_9, x32_10, ↓reduceIte, Option.toList, List.nil_append, List.cons_append, nI_add, pk_mul, n_and, n_or, n_xor, nI_leI, nI_ltI, nI_eq, n_z, uI_s, uI_n, bI_n0, bI_n1, bT, bF, if_true, if_false, not_true, not_false_eq_true, pk_div, pk_rem, Nat.reduceEqDiff, Nat.reduceLeDiff, Nat.reduceLT, Nat.reduceAdd, Nat.reduceMul, Nat.reduceSub, Nat.not_lt_zero, Nat.zero_le, reduceCtorEq, ite_self, n_rem, and_self, and_true, true_and, and_false, false_and, h2, f0]
theorem sp_failL {cs : List Nat} {p w : Nat} (hw : 0 < w ∧ w < 7) (h : LvS I t b n L cs p) : ∃ I', FrZ t I I' ∧ DdC I' t w (tS b n p) ∧ ∀ Q, Rn sc d 32 0 [some (.ref 67), some (.int (nI w))] [] (K0, I, J, R1 T) Q = Q none (K0, I', J, R1 T) := by
  obtain ⟨⟨n3, -⟩, hp, ⟨k4, k5, k6, k7⟩, h2, h8, hC, hl⟩ := h
  have kl := tK_lt (b := b) (n := n) (p := p)
  have sl := (tS_le (b := b) hp).2
  refine ⟨uI (uI I 67 2 (nI w)) 67 3 (nI (tS b n p)), FrZ_t (FrZ_u (by omega)) (FrZ_u (by omega)), ⟨by rw [uI_n (by omega), uI_s], hw.1, hw.2, uI_s, ⟨cs.length, by omega, by rw [uI_n (by omega), uI_n (by omega)]; exact hC.1⟩, ⟨tK b n p, by omega, by rw [uI_n (by omega), uI_n (by omega)]; exact k6⟩⟩, fun Q => ?_⟩
  simp (disch := first | assumption | omega | decide) only [x32_0, x32_1, x32_2, x32_3, x32_4, x32_5, x32_6, x32_7, x32_8, x32_9, x32_10, ↓reduceIte, Option.toList, List.nil_append, List.cons_append, nI_add, pk_mul, n_and, n_or, n_xor, nI_leI, nI_ltI, nI_eq, n_z, uI_s, uI_n, bI_n0, bI_n1, bT, bF, if_true, if_false, not_true, not_false_eq_true, pk_div, pk_rem, Nat.reduceEqDiff, Nat.reduceLeDiff, Nat.reduceLT, Nat.reduceAdd, Nat.reduceMul, Nat.reduceSub, Nat.not_lt_zero, Nat.zero_le, reduceCtorEq, ite_self, n_rem, and_self, and_true, true_and, and_false, false_and, h2, k5]
theorem sp_emitY {u w v : Nat} (ht : t < 4) (hu : I (47 + 5 * t) 1 = nI u) (h3 : u < 300) (hv : v < 16384) : ∀ Q, Rn sc d 88 0 [some (.ref (47 + 5 * t)), some (.int (nI w)), some (.int (nI v))] [] (K0, I, J, R1 T) Q = Q none (K0, uI (uI I (48 + 5 * t) u (nI (w + v * 64))) (47 + 5 * t) 1 (nI (u + 1)), J, R1 T) := by
  intro Q
  have l3 : ¬ 300 ≤ u := by omega
  have e6 : nI v <<< (nI 6 &&& 31) = nI (v * 64) := n_shl (by omega) (by omega)
  have g1 : uI I (48 + 5 * t) u (nI (w + v * 64)) (47 + 5 * t) 1 = nI u := by rw [uI_n (by omega)]; exact hu
  simp (disch := first | assumption | omega | decide) only [x88_0r, x88_0n, x88_1 (a := 47 + 5 * t) (kd_t ht) (by omega), x88_2, x88_3, x88_4r, x88_4n, x88_5 (a := 47 + 5 * t) (kd_t ht) (by omega), vr_0 ht, x88_6r, x88_6n, x88_7 (a := 47 + 5 * t) (kd_t ht) (by omega), x88_8, x88_9, x88_10, x88_11, x88_12, x88_13 (a := 48 + 5 * t) (n := 300) (by omega) (kd_c ht), x88_14r, x88_14n, x88_15, x88_16 (a := 47 + 5 * t) (kd_t ht) (by omega), x88_17, x88_18, x88_19 (a := 47 + 5 * t) (kd_t ht) (by omega), x88_20, ↓reduceIte, Option.toList, List.nil_append, List.cons_append, nI_add, pk_mul, n_and, n_or, n_xor, nI_leI, nI_ltI, nI_eq, n_z, uI_s, uI_n, bI_n0, bI_n1, bT, bF, if_true, if_false, not_true, not_false_eq_true, pk_div, pk_rem, Nat.reduceEqDiff, Nat.reduceLeDiff, Nat.reduceLT, Nat.reduceAdd, Nat.reduceMul, Nat.reduceSub, Nat.not_lt_zero, Nat.zero_le, reduceCtorEq, ite_self, n_rem, and_self, and_true, true_and, and_false, false_and, hu, l3, e6, g1]
theorem sp_emitN {u : Nat} {w v : Int32} (ht : t < 4) (hu : I (47 + 5 * t) 1 = nI u) (h3 : u = 300) : ∀ Q, Rn sc d 88 0 [some (.ref (47 + 5 * t)), some (.int w), some (.int v)] [] (K0, I, J, R1 T) Q = Q none (K0, I, J, R1 T) := by
  intro Q
  rw [h3] at hu
  simp (disch := first | assumption | omega | decide) only [x88_0r, x88_0n, x88_1 (a := 47 + 5 * t) (kd_t ht) (by omega), x88_2, x88_3, x88_4r, x88_4n, x88_20, ↓reduceIte, Option.toList, List.nil_append, List.cons_append, nI_add, pk_mul, n_and, n_or, n_xor, nI_leI, nI_ltI, nI_eq, n_z, uI_s, uI_n, bI_n0, bI_n1, bT, bF, if_true, if_false, not_true, not_false_eq_true, pk_div, pk_rem, Nat.reduceEqDiff, Nat.reduceLeDiff, Nat.reduceLT, Nat.reduceAdd, Nat.reduceMul, Nat.reduceSub, Nat.not_lt_zero, Nat.zero_le, reduceCtorEq, ite_self, n_rem, and_self, and_true, true_and, and_false, false_and, hu, Nat.le_refl]
theorem emD {f x u w v : Nat} (ht : t < 4) (h : DdC I t f x) (hv : v < 16384) : ∃ I', FrZ t I I' ∧ DdC I' t f x ∧ ∀ Q, Rn sc d 88 0 [some (.ref (47 + 5 * t)), some (.int (nI w)), some (.int (nI v))] [] (K0, I, J, R1 T) Q = Q none (K0, I', J, R1 T) := by
  obtain ⟨h2, h0, h7, h3, ⟨u, hu, h1⟩, κ, hk, h6⟩ := h
  by_cases c : u = 300
  · exact ⟨I, FrZ_r, ⟨h2, h0, h7, h3, ⟨u, hu, h1⟩, κ, hk, h6⟩, sp_emitN ht h1 c⟩
  · refine ⟨_, ?_, ?_, sp_emitY ht h1 (by omega) hv⟩
    · intro c k a1 a2 a3
      rw [uI_n (by omega), uI_n (by omega)]
    · exact ⟨by rw [uI_n (by omega), uI_n (by omega)]; exact h2, h0, h7, by rw [uI_n (by omega), uI_n (by omega)]; exact h3, ⟨u + 1, by omega, uI_s⟩, κ, hk, by rw [uI_n (by omega), uI_n (by omega)]; exact h6⟩
theorem gd_a {cs ds : List Nat} {j : Nat} (h : j < cs.length) : (cs ++ ds).getD j 0 = cs.getD j 0 := by
  rw [List.getD_eq_getElem?_getD, List.getD_eq_getElem?_getD, List.getElem?_append_left h]
theorem gd_e {cs : List Nat} {x : Nat} : (cs ++ [x]).getD cs.length 0 = x := by
  rw [List.getD_eq_getElem?_getD, List.getElem?_append_right (Nat.le_refl _), Nat.sub_self]
  rfl
theorem CdC_c {I' : Nat → Nat → Int32} {cs : List Nat} (h : CdC I t cs) (e1 : I' (47 + 5 * t) 1 = I (47 + 5 * t) 1) (e2 : ∀ k, I' (48 + 5 * t) k = I (48 + 5 * t) k) : CdC I' t cs := ⟨e1.trans h.1, fun j hj => (e2 j).trans (h.2 j hj)⟩
/-- an entry more -/
theorem emL {cs : List Nat} {w v : Nat} (ht : t < 4) (h : CdC I t cs) (hl : cs.length < 300) (hv : v < 16384) : ∃ I', (∀ c k, c ≠ 48 + 5 * t → (c ≠ 47 + 5 * t ∨ k ≠ 1) → I' c k = I c k) ∧ CdC I' t (cs ++ [w + v * 64]) ∧ ∀ Q, Rn sc d 88 0 [some (.ref (47 + 5 * t)), some (.int (nI w)), some (.int (nI v))] [] (K0, I, J, R1 T) Q = Q none (K0, I', J, R1 T) := by
  refine ⟨_, ?_, ?_, sp_emitY ht h.1 hl hv⟩
  · intro c k a2 a3
    rw [uI_n (by omega), uI_n (by omega)]
  · refine ⟨?_, fun j hj => ?_⟩
    · rw [uI_s, List.length_append, List.length_cons, List.length_nil]
    · rw [List.length_append, List.length_cons, List.length_nil] at hj
      rw [uI_n (by omega)]
      by_cases e : j = cs.length
      · rw [e, uI_s, gd_e]
      · rw [uI_n (by omega), gd_a (by omega)]
        exact h.2 j (by omega)
theorem nxL {cs : List Nat} {p : Nat} (h : LvS I t b n L cs p) : ∃ I', FrZ t I I' ∧ LvS I' t b n L cs (tX b n p) ∧ ∀ Q, Rn sc (d + 5) 48 0 [some (.ref 67)] [] (K0, I, J, R1 T) Q = Q none (K0, I', J, R1 T) := by
  obtain ⟨hT, hp, ⟨k4, k5, k6, k7⟩, h2, h8, hC, hl⟩ := h
  obtain ⟨x1, x2, -⟩ := tX_le (b := b) hp
  obtain ⟨I1, f1, t1, q1⟩ := sp_next (sc := sc) (d := d) (J := J) (T := T) hT x2 k4
  have s1 := (tS_le (b := b) x2).1
  exact ⟨I1, FrZ_f f1, ⟨TpC_c hT f1, x2, t1, (f1 _ _ (by omega)).trans h2, (f1 _ _ (by omega)).trans h8, CdC_c hC (f1 _ _ (by omega)) (fun k => f1 _ _ (by omega)), by omega, (f1 _ _ (by omega)).trans hl.2⟩, q1⟩
theorem LvS_e {I' : Nat → Nat → Int32} {cs cs' : List Nat} {p : Nat} (h : LvS I t b n L cs p) (e : ∀ c k, c ≠ 48 + 5 * t → (c ≠ 47 + 5 * t ∨ k ≠ 1) → I' c k = I c k) (ht : t < 4) (hC : CdC I' t cs') (hl : cs'.length ≤ tS b n p) : LvS I' t b n L cs' p := by
  obtain ⟨hT, hp, ⟨k4, k5, k6, k7⟩, h2, h8, -, hz⟩ := h
  have g : ∀ k, I' 67 k = I 67 k := fun k => e 67 k (by omega) (by omega)
  refine ⟨⟨hT.1, (g 1).trans hT.2.1, fun k hk => ⟨(e 68 k (by omega) (by omega)).trans (hT.2.2 k hk).1, (hT.2.2 k hk).2⟩⟩, hp, ⟨(g 4).trans k4, (g 5).trans k5, (g 6).trans k6, fun q => (g 7).trans (k7 q)⟩, (g 2).trans h2, (g 8).trans h8, hC, hl, (g 3).trans hz.2⟩
/-- expect -/
theorem ms_expect {w : Nat} (hw : w < 44) : MS sc (d + 6) T t b n L 36 [some (.ref 67), some (.int (nI w))] (fun p => xpt b n w ([], []) p) := by
  intro I J st hst
  rcases st with ⟨f, x⟩ | ⟨cs, p⟩
  · have h2 := hst.1
    have f0 : ¬ f = 0 := by
      have := hst.2.1
      omega
    have f7 := hst.2.2.1
    have fd := sp_failD (sc := sc) (d := d + 5) (J := J) (T := T) (w := 1) hst
    refine ⟨I, FrZ_r, hst, fun Q => ?_⟩
    simp (disch := first | assumption | omega | decide) only [x36_0, x36_1, x36_2, x36_3, x36_4, x36_5, x36_6, x36_7, x36_8, x36_9, x36_10, x36_11, x36_12, x36_13, ↓reduceIte, Option.toList, List.nil_append, List.cons_append, nI_add, pk_mul, n_and, n_or, n_xor, nI_leI, nI_ltI, nI_eq, n_z, uI_s, uI_n, bI_n0, bI_n1, bT, bF, if_true, if_false, not_true, not_false_eq_true, pk_div, pk_rem, Nat.reduceEqDiff, Nat.reduceLeDiff, Nat.reduceLT, Nat.reduceAdd, Nat.reduceMul, Nat.reduceSub, Nat.not_lt_zero, Nat.zero_le, reduceCtorEq, ite_self, n_rem, and_self, and_true, true_and, and_false, false_and, h2, f0, fd]
  · have hst : LvS I t b n L cs p := hst
    have h2 := hst.2.2.2.1
    have k6 := hst.2.2.1.2.2.1
    have kl := tK_lt (b := b) (n := n) (p := p)
    show ∃ I', FrZ t I I' ∧ StC I' t b n L (match xpt b n w ([], []) p with | .inl e => .inl e | .inr (c, p') => .inr (cs ++ c.1, p')) ∧ _
    unfold xpt
    by_cases c : tK b n p = w
    · obtain ⟨I1, f1, l1, q1⟩ := nxL (sc := sc) (d := d) (J := J) (T := T) hst
      rw [if_pos c]
      refine ⟨I1, f1, ?_, fun Q => ?_⟩
      · show LvS I1 t b n L (cs ++ []) _
        rw [List.append_nil]
        exact l1
      · simp (disch := first | assumption | omega | decide) only [x36_0, x36_1, x36_2, x36_3, x36_4, x36_5, x36_6, x36_7, x36_8, x36_9, x36_10, x36_11, x36_12, x36_13, ↓reduceIte, Option.toList, List.nil_append, List.cons_append, nI_add, pk_mul, n_and, n_or, n_xor, nI_leI, nI_ltI, nI_eq, n_z, uI_s, uI_n, bI_n0, bI_n1, bT, bF, if_true, if_false, not_true, not_false_eq_true, pk_div, pk_rem, Nat.reduceEqDiff, Nat.reduceLeDiff, Nat.reduceLT, Nat.reduceAdd, Nat.reduceMul, Nat.reduceSub, Nat.not_lt_zero, Nat.zero_le, reduceCtorEq, ite_self, n_rem, and_self, and_true, true_and, and_false, false_and, h2, k6, c, q1]
    · obtain ⟨I1, f1, d1, q1⟩ := sp_failL (sc := sc) (d := d + 5) (J := J) (T := T) (w := 1) (by omega) hst
      rw [if_neg c]
      refine ⟨I1, f1, d1, fun Q => ?_⟩
      simp (disch := first | assumption | omega | decide) only [x36_0, x36_1, x36_2, x36_3, x36_4, x36_5, x36_6, x36_7, x36_8, x36_9, x36_10, x36_11, x36_12, x36_13, ↓reduceIte, Option.toList, List.nil_append, List.cons_append, nI_add, pk_mul, n_and, n_or, n_xor, nI_leI, nI_ltI, nI_eq, n_z, uI_s, uI_n, bI_n0, bI_n1, bT, bF, if_true, if_false, not_true, not_false_eq_true, pk_div, pk_rem, Nat.reduceEqDiff, Nat.reduceLeDiff, Nat.reduceLT, Nat.reduceAdd, Nat.reduceMul, Nat.reduceSub, Nat.not_lt_zero, Nat.zero_le, reduceCtorEq, ite_self, n_rem, and_self, and_true, true_and, and_false, false_and, h2, k6, c, q1]
end ReadB
