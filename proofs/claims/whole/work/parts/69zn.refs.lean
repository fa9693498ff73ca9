/-! the reference's reading of sums: one step -/
abbrev Rst := Bool × List Nat × List (Nat × Nat) × Nat
abbrev Oc := Sum (Nat × Nat × List (Nat × Nat)) Rst
section StepR
variable (b : Nat → Nat) (n L : Nat)
def endF (P : List Nat) (out : List (Nat × Nat)) (p : Nat) : Oc := if (stl 7 P out).1.head? = some 41 then (if tK b n p = 18 then .inr (false, 4 :: (stl 7 P out).1.tail, (stl 7 P out).2, tX b n p) else .inl (1, tS b n p, [])) else .inr (true, (stl 7 P out).1, (stl 7 P out).2, p)
def opF (o : Nat) (P : List Nat) (out : List (Nat × Nat)) (p : Nat) : Oc := if opsN P = 8 then .inl (3, tS b n p, []) else .inr (false, o :: P, out, tX b n p)
def begF (P : List Nat) (out : List (Nat × Nat)) (p : Nat) : Oc :=
  if tK b n p = 41 then (if tV b n p ≤ 9999 then endF b n P (out ++ [(0, tV b n p)]) (tX b n p) else .inl (2, tS b n p, []))
  else if 7 ≤ tK b n p ∧ tK b n p ≤ 15 then (if (L = 0 ∧ (tK b n p = 14 ∨ tK b n p = 15)) ∨ (L = 1 ∧ tK b n p = 13) then .inl (5, tS b n p, []) else endF b n P (out ++ [(1, kw (tK b n p))]) (tX b n p))
  else if tK b n p = 36 then opF b n 40 P out p else if tK b n p = 33 then opF b n 5 P out p else if tK b n p = 19 then opF b n 41 P out p else if tK b n p = 20 then opF b n 2 P out p else if tK b n p = 21 then opF b n 42 P out p
  else if tK b n p = 27 ∧ askA P = true then opF b n 20 P out p else .inl (1, tS b n p, [])
def btwF (P : List Nat) (p : Nat) : Nat :=
  if tK b n p = 32 then 6 else if tK b n p = 33 then 7 else if tK b n p = 34 then 8 else if tK b n p = 35 then 9
  else if ¬ opW P = 42 then 0 else if ¬ isCm P = true then (if isCmp (tK b n p) = true then cmM (tK b n p) else 0)
  else if tK b n p = 26 then 21 else if tK b n p = 25 then 22 else 0
def prtF (P : List Nat) (p : Nat) : Nat :=
  if opW P = 40 then (if tK b n p = 37 then 1 else 0)
  else if opW P = 42 then (if tK b n p = 22 ∧ isCm P = true then 43 else 0)
  else if opW P = 43 then (if tK b n p = 23 then 44 else 0)
  else if opW P = 44 then (if tK b n p = 24 then 1 else 0) else 0
def behF (P : List Nat) (out : List (Nat × Nat)) (p : Nat) : Oc :=
  if btwF b n P p ≠ 0 then .inr (false, btwF b n P p :: (stl (if rk (btwF b n P p) = 4 then 5 else rk (btwF b n P p)) P out).1, (stl (if rk (btwF b n P p) = 4 then 5 else rk (btwF b n P p)) P out).2, tX b n p)
  else if prtF b n P p = 1 then endF b n (stl 1 P out).1.tail ((stl 1 P out).2 ++ (if opW P = 44 then [(3, 0)] else [])) (tX b n p)
  else .inr (false, prtF b n P p :: (stl 1 P out).1.tail, (stl 1 P out).2, tX b n p)
def stpR (s : Rst) : Oc :=
  if s.1 = true then (if btwF b n s.2.1 s.2.2.2 = 0 ∧ prtF b n s.2.1 s.2.2.2 = 0 then (if opW s.2.1 = 0 then .inl (0, s.2.2.2, (stl 1 s.2.1 s.2.2.1).2) else .inl (1, tS b n s.2.2.2, [])) else behF b n s.2.1 s.2.2.1 s.2.2.2)
  else begF b n L s.2.1 s.2.2.1 s.2.2.2
end StepR
def RsM (I : Nat → Nat → Int32) (J : Nat → Nat → Int64) (b : Nat → Nat) (n L x0 : Nat) (s : Rst) : Prop := TpM I b n ∧ s.2.2.2 ≤ n ∧ TkM I J b n s.2.2.2 ∧ CoR I x0 s.2.1 s.2.2.1 ∧ I 89 18 = nI (if s.1 = true then 1 else 0) ∧ I 89 14 = nI L ∧ Wp s.2.1 ∧ opsN s.2.1 ≤ 8 ∧ s.2.2.1.length + s.2.1.length ≤ tS b n s.2.2.2
def OcM (I : Nat → Nat → Int32) (J : Nat → Nat → Int64) (b : Nat → Nat) (n L x0 : Nat) : Oc → Prop
  | .inl (f, x, _) => 0 < f ∧ f < 8 ∧ I 89 8 = nI x
  | .inr s => RsM I J b n L x0 s
def ocV : Oc → Int32
  | .inl (f, _, _) => nI f
  | .inr _ => nI 0
def FrR (x0 : Nat) (I I' : Nat → Nat → Int32) : Prop := ∀ c k, (c ≠ 89 ∨ k < 7 ∨ 18 < k ∨ k = 12) → (c ≠ 92 ∨ k < x0 + 73 ∨ x0 + 681 ≤ k) → c ≠ 94 → I' c k = I c k
theorem FrR_r {x0 : Nat} {I : Nat → Nat → Int32} : FrR x0 I I := fun _ _ _ _ _ => rfl
theorem FrR_t {x0 : Nat} {I I' I'' : Nat → Nat → Int32} (h : FrR x0 I I') (h' : FrR x0 I' I'') : FrR x0 I I'' := fun c k a1 a2 a3 => (h' c k a1 a2 a3).trans (h c k a1 a2 a3)
theorem FrR_s {x0 : Nat} {I I' : Nat → Nat → Int32} (h : FrS x0 I I') : FrR x0 I I' := fun c k a1 a2 _ => h c k (by omega) a2
theorem FrR_k {x0 : Nat} {I I' : Nat → Nat → Int32} (h : FrK I I') : FrR x0 I I' := fun c k a1 _ _ => h c k (by omega)
theorem rk_6 {o : Nat} (h : ¬ opq o = 1) : rk o ≤ 6 := by
  have r7 := rk_le o
  have : ¬ rk o = 7 := fun q => h (by
    unfold opq
    rw [if_pos (Or.inr (Or.inl q))])
  omega
theorem wp_6 : ∀ {P : List Nat}, Wp P → P.length ≤ 7 * opsN P + 6
  | [], _ => Nat.zero_le _
  | x :: P, h => by
    have h2 := h.2.1
    rw [List.length_cons]
    by_cases c : opq x = 1
    · rw [if_pos c] at h2
      omega
    · rw [if_neg c] at h2
      have := rk_6 c
      omega
theorem wp_op {P : List Nat} {o : Nat} (h : Wp P) (ho : opq o = 1) (h64 : o < 64) : Wp (o :: P) ∧ opsN (o :: P) = opsN P + 1 := by
  have e : opsN (o :: P) = opsN P + 1 := by
    show opq o + opsN P = _
    omega
  have := wp_6 h
  exact ⟨⟨h64, by rw [if_pos ho, e]; omega, h⟩, e⟩
section RefS
variable {sc : Sc} {d : Nat} {T : Option Nat} {b : Nat → Nat} {n L x0 : Nat} {I : Nat → Nat → Int32} {J : Nat → Nat → Int64}
theorem mkR {wh : Bool} {P : List Nat} {out : List (Nat × Nat)} {p : Nat} (t : TpM I b n) (hp : p ≤ n) (k : TkM I J b n p) (c : CoR I x0 P out) (h18 : I 89 18 = nI (if wh = true then 1 else 0)) (h14 : I 89 14 = nI L) (w : Wp P) (h8 : opsN P ≤ 8) (hl : out.length + P.length ≤ tS b n p) : RsM I J b n L x0 (wh, P, out, p) := ⟨t, hp, k, c, h18, h14, w, h8, hl⟩
theorem CoR_k {I' : Nat → Nat → Int32} {P : List Nat} {out : List (Nat × Nat)} (h : CoR I x0 P out) (f : FrK I I') : CoR I' x0 P out := by
  obtain ⟨h1, h2, h3, h4, h5, h6⟩ := h
  exact ⟨PlL_c P (fun k _ => f _ _ (by omega)) h1, (f _ _ (by omega)).trans h2, (f _ _ (by omega)).trans h3, (f _ _ (by omega)).trans h4, (f _ _ (by omega)).trans h5, fun j hj => ⟨(f _ _ (by omega)).trans (h6 j hj).1, (f _ _ (by omega)).trans (h6 j hj).2⟩⟩
theorem TpM_r {I' : Nat → Nat → Int32} (h : TpM I b n) (e : ∀ k, k = 4 → I' 89 k = I 89 k) (e2 : ∀ k, I' 93 k = I 93 k) : TpM I' b n := ⟨h.1, (e 4 rfl).trans h.2.1, fun k hk => ⟨(e2 k).trans (h.2.2 k hk).1, (h.2.2 k hk).2⟩⟩
theorem TkM_r {I' : Nat → Nat → Int32} {p : Nat} (h : TkM I J b n p) (e : ∀ k, 7 ≤ k → k ≤ 10 → I' 89 k = I 89 k) : TkM I' J b n p := by
  obtain ⟨h1, h2, h3, h4, h5⟩ := h
  refine ⟨(e 7 (by omega) (by omega)).trans h1, (e 8 (by omega) (by omega)).trans h2, (e 9 (by omega) (by omega)).trans h3, fun q => ?_, h5⟩
  obtain ⟨x, a1, a2, a3⟩ := h4 q
  exact ⟨x, a1, (e 10 (by omega) (by omega)).trans a2, a3⟩
theorem nxM {p : Nat} (t : TpM I b n) (hp : p ≤ n) (k : TkM I J b n p) : ∃ I' J', FrK I I' ∧ TpM I' b n ∧ TkM I' J' b n (tX b n p) ∧ ∀ Q, Rn sc (d + 1) 187 0 [some (.ref 89), none] [] (K0, I, J, R1 T) Q = Q none (K0, I', J', R1 T) := by
  obtain ⟨I1, J1, f1, t1, q1⟩ := sp_nextM (sc := sc) (d := d) (T := T) (J := J) t (tX_le (b := b) hp).2.1 k.1
  exact ⟨I1, J1, f1, TpM_c t f1, t1, q1⟩
theorem sp_endOne {P : List Nat} {out : List (Nat × Nat)} {p : Nat} (hx : x0 ≤ 2043) (t : TpM I b n) (hp : p ≤ n) (k : TkM I J b n p) (hC : CoR I x0 P out) (h14 : I 89 14 = nI L) (hw : Wp P) (h8 : opsN P ≤ 8) (hl : out.length + P.length ≤ tS b n p) : ∃ I' J', FrR x0 I I' ∧ OcM I' J' b n L x0 (endF b n P out p) ∧ ∀ Q, Rn sc (d + 5) 206 0 [some (.ref 89)] [] (K0, I, J, R1 T) Q = Q (some (.int (ocV (endF b n P out p)))) (K0, I', J', R1 T) := by
  have n3 := t.1
  have hb : ∀ k, k < n → b k < 256 := fun k hk => (t.2.2 k hk).2
  have sl := (tS_le (b := b) hp).2
  obtain ⟨I1, f1, c1, q1⟩ := sp_settle (sc := sc) (d := d + 3) (J := J) (T := T) (show 1 ≤ 7 by decide) (show 7 ≤ 7 by decide) hx P out I hC hw h8 (by omega)
  obtain ⟨w1, w2, w3⟩ := st_ops (k := 7) P out hw
  unfold endF
  obtain ⟨s, es⟩ : ∃ s, s = stl 7 P out := ⟨_, rfl⟩
  rw [← es] at c1 w1 w2 w3 ⊢
  obtain ⟨P1, out1⟩ := s
  have c1 : CoR I1 x0 P1 out1 := c1
  have w1 : Wp P1 := w1
  have w2 : opsN P1 ≤ opsN P := w2
  have w3 : P1.length + out1.length = P.length + out.length := w3
  have l62 := wp_62 w1 (by omega)
  show ∃ I' J', FrR x0 I I' ∧ OcM I' J' b n L x0 (if P1.head? = some 41 then (if tK b n p = 18 then .inr (false, 4 :: P1.tail, out1, tX b n p) else .inl (1, tS b n p, [])) else .inr (true, P1, out1, p)) ∧ ∀ Q : Option Value → Mm → Prop, Rn sc (d + 5) 206 0 [some (.ref 89)] [] (K0, I, J, R1 T) Q = Q (some (.int (ocV (if P1.head? = some 41 then (if tK b n p = 18 then .inr (false, 4 :: P1.tail, out1, tX b n p) else .inl (1, tS b n p, [])) else .inr (true, P1, out1, p))))) (K0, I', J', R1 T)
  obtain ⟨I2, eI2⟩ : ∃ X, X = uI I1 89 18 (nI 1) := ⟨_, rfl⟩
  have g2 : ∀ c k, c ≠ 89 ∨ k ≠ 18 → I2 c k = I1 c k := fun c k hc => by rw [eI2, uI_n hc]
  have c2 : CoR I2 x0 P1 out1 := by
    obtain ⟨a1, a2, a3, a4, a5, a6⟩ := c1
    exact ⟨PlL_c P1 (fun k _ => g2 _ _ (by omega)) a1, (g2 _ _ (by omega)).trans a2, (g2 _ _ (by omega)).trans a3, (g2 _ _ (by omega)).trans a4, (g2 _ _ (by omega)).trans a5, fun j hj => ⟨(g2 _ _ (by omega)).trans (a6 j hj).1, (g2 _ _ (by omega)).trans (a6 j hj).2⟩⟩
  have f2 : FrR x0 I I2 := FrR_t (FrR_s f1) (fun c k a1 _ _ => g2 c k (by omega))
  have t2 : TpM I2 b n := TpM_r t (fun k hk => (g2 _ _ (by omega)).trans (f1 _ _ (by omega) (by omega))) (fun k => (g2 _ _ (by omega)).trans (f1 _ _ (by omega) (by omega)))
  have k2 : TkM I2 J b n p := TkM_r k (fun k a1 a2 => (g2 _ _ (by omega)).trans (f1 _ _ (by omega) (by omega)))
  have h142 : I2 89 14 = nI L := (g2 _ _ (by omega)).trans ((f1 _ _ (by omega) (by omega)).trans h14)
  have h18 : I2 89 18 = nI 1 := by rw [eI2, uI_s]
  have st : ∀ Q, Rn sc (d + 5) 206 0 [some (.ref 89)] [] (K0, I, J, R1 T) Q = Rn sc (d + 5) 206 6 [some (.ref 89)] [] (K0, I2, J, R1 T) Q := fun Q => by
    rw [eI2]
    simp (disch := first | assumption | omega | decide) only [x206_0, x206_1, x206_2, x206_3, x206_4, x206_5, ↓reduceIte, Option.toList, List.nil_append, List.cons_append, nI_add, pk_mul, n_and, n_or, n_xor, nI_leI, nI_ltI, nI_eq, n_z, uI_s, uI_n, bI_n0, bI_n1, bT, bF, if_true, if_false, not_true, not_false_eq_true, pk_div, pk_rem, Nat.reduceEqDiff, Nat.reduceLeDiff, Nat.reduceLT, Nat.reduceAdd, Nat.reduceMul, Nat.reduceSub, Nat.not_lt_zero, Nat.zero_le, reduceCtorEq, ite_self, n_rem, and_self, and_true, true_and, and_false, false_and, q1]
  have h16 := c2.2.1
  cases P1 with
  | nil =>
    rw [if_neg (show ¬ ([] : List Nat).head? = some 41 by decide)]
    have h16 : I2 89 16 = nI 0 := h16
    refine ⟨I2, J, f2, mkR t2 hp k2 c2 h18 h142 w1 (by omega) (by omega), fun Q => ?_⟩
    rw [st Q]
    simp (disch := first | assumption | omega | decide) only [x206_6, x206_7, x206_8, x206_18, x206_19, ↓reduceIte, Option.toList, List.nil_append, List.cons_append, nI_add, pk_mul, n_and, n_or, n_xor, nI_leI, nI_ltI, nI_eq, n_z, uI_s, uI_n, bI_n0, bI_n1, bT, bF, if_true, if_false, not_true, not_false_eq_true, pk_div, pk_rem, Nat.reduceEqDiff, Nat.reduceLeDiff, Nat.reduceLT, Nat.reduceAdd, Nat.reduceMul, Nat.reduceSub, Nat.not_lt_zero, Nat.zero_le, reduceCtorEq, ite_self, n_rem, and_self, and_true, true_and, and_false, false_and, h16, ocV]
  | cons x P2 =>
    rw [List.length_cons] at w3 l62
    have h16b : I2 89 16 = nI (P2.length + 1) := h16
    have e0 : I2 94 P2.length = nI x := c2.1.1
    have x64 : x < 64 := w1.1
    have p160 : P2.length < 160 := by omega
    have pz : ¬ P2.length + 1 = 0 := by omega
    by_cases c : x = 41
    · subst c
      rw [if_pos (show (41 :: P2).head? = some 41 from rfl)]
      by_cases ck : tK b n p = 18
      · obtain ⟨tk1, tk2⟩ := tk_st hp (show tK b n p ≠ 42 by omega)
        obtain ⟨I3, J3, f3, t3, k3, q3⟩ := nxM (sc := sc) (d := d + 3) (T := T) t2 hp k2
        rw [if_pos ck]
        have iw := fun Q => iw_18 (sc := sc) (d := d + 4) (T := T) (Q := Q) hp hb k2
        rw [bI_t ck] at iw
        have c3 := CoR_k c2 f3
        have h163 : I3 89 16 = nI (P2.length + 1) := c3.2.1
        obtain ⟨I4, eI4⟩ : ∃ X, X = uI (uI I3 94 P2.length (nI 4)) 89 18 (nI 0) := ⟨_, rfl⟩
        have g4 : ∀ c k, (c ≠ 89 ∨ k ≠ 18) → (c ≠ 94 ∨ k ≠ P2.length) → I4 c k = I3 c k := fun c k a1 a2 => by rw [eI4, uI_n a1, uI_n a2]
        have c4 : CoR I4 x0 (4 :: P2) out1 := by
          obtain ⟨a1, a2, a3, a4, a5, a6⟩ := c3
          exact ⟨⟨by rw [eI4, uI_n (by omega), uI_s], PlL_c P2 (fun k hk => g4 _ _ (by omega) (by omega)) a1.2⟩, (g4 _ _ (by omega) (by omega)).trans a2, (g4 _ _ (by omega) (by omega)).trans a3, (g4 _ _ (by omega) (by omega)).trans a4, (g4 _ _ (by omega) (by omega)).trans a5, fun j hj => ⟨(g4 _ _ (by omega) (by omega)).trans (a6 j hj).1, (g4 _ _ (by omega) (by omega)).trans (a6 j hj).2⟩⟩
        refine ⟨I4, J3, FrR_t f2 (FrR_t (FrR_k f3) (fun c k a1 _ a3 => g4 c k (by omega) (by omega))), ⟨TpM_r t3 (fun k hk => g4 _ _ (by omega) (by omega)) (fun k => g4 _ _ (by omega) (by omega)), tk1, TkM_r k3 (fun k a1 a2 => g4 _ _ (by omega) (by omega)), c4, by rw [eI4, uI_s]; rfl, ?_, ⟨by decide, w1.2.1, w1.2.2⟩, ?_, ?_⟩, fun Q => ?_⟩
        · rw [g4 _ _ (by omega) (by omega), f3 _ _ (by omega)]
          exact h142
        · have : opsN (41 :: P2) ≤ 8 := by omega
          exact this
        · show out1.length + (4 :: P2).length ≤ _
          rw [List.length_cons]
          show out1.length + (P2.length + 1) ≤ tS b n (tX b n p)
          omega
        · rw [st Q, eI4]
          simp (disch := first | assumption | omega | decide) only [x206_6, x206_7, x206_8, x206_9, x206_10, x206_11, x206_12, x206_13, x206_14, x206_15, x206_16, x206_17, x206_18, x206_19, x206_20, x206_21, x206_22, x206_23, x206_24, x206_25, x206_26, x206_27, x206_28, x206_29, x206_30, x206_31, x206_32, x206_33, x206_34, x206_35, x206_36, x206_37, x206_38, x206_39, x206_40, x206_41, x206_42, ↓reduceIte, Option.toList, List.nil_append, List.cons_append, nI_add, pk_mul, n_and, n_or, n_xor, nI_leI, nI_ltI, nI_eq, n_z, uI_s, uI_n, bI_n0, bI_n1, bT, bF, if_true, if_false, not_true, not_false_eq_true, pk_div, pk_rem, Nat.reduceEqDiff, Nat.reduceLeDiff, Nat.reduceLT, Nat.reduceAdd, Nat.reduceMul, Nat.reduceSub, Nat.not_lt_zero, Nat.zero_le, reduceCtorEq, ite_self, n_rem, and_self, and_true, true_and, and_false, false_and, h16b, pz, n_sub (show 1 ≤ P2.length + 1 by omega), Nat.add_sub_cancel, e0, sp_w2, iw, q3, h163, ocV]
      · rw [if_neg ck]
        have iw := fun Q => iw_18 (sc := sc) (d := d + 4) (T := T) (Q := Q) hp hb k2
        rw [bI_f ck] at iw
        refine ⟨I2, J, f2, ⟨by decide, by decide, k2.2.1⟩, fun Q => ?_⟩
        rw [st Q]
        simp (disch := first | assumption | omega | decide) only [x206_6, x206_7, x206_8, x206_9, x206_10, x206_11, x206_12, x206_13, x206_14, x206_15, x206_16, x206_17, x206_18, x206_19, x206_20, x206_21, x206_22, x206_23, x206_24, x206_25, x206_26, x206_27, ↓reduceIte, Option.toList, List.nil_append, List.cons_append, nI_add, pk_mul, n_and, n_or, n_xor, nI_leI, nI_ltI, nI_eq, n_z, uI_s, uI_n, bI_n0, bI_n1, bT, bF, if_true, if_false, not_true, not_false_eq_true, pk_div, pk_rem, Nat.reduceEqDiff, Nat.reduceLeDiff, Nat.reduceLT, Nat.reduceAdd, Nat.reduceMul, Nat.reduceSub, Nat.not_lt_zero, Nat.zero_le, reduceCtorEq, ite_self, n_rem, and_self, and_true, true_and, and_false, false_and, h16b, pz, n_sub (show 1 ≤ P2.length + 1 by omega), Nat.add_sub_cancel, e0, sp_w2, iw, ocV]
    · rw [if_neg (show ¬ (x :: P2).head? = some 41 by
        show ¬ some x = some 41
        exact fun q => c (Option.some.inj q))]
      refine ⟨I2, J, f2, mkR t2 hp k2 c2 h18 h142 w1 (by omega) (by rw [List.length_cons]; omega), fun Q => ?_⟩
      rw [st Q]
      simp (disch := first | assumption | omega | decide) only [x206_6, x206_7, x206_8, x206_9, x206_10, x206_11, x206_12, x206_13, x206_14, x206_15, x206_16, x206_17, x206_18, x206_19, ↓reduceIte, Option.toList, List.nil_append, List.cons_append, nI_add, pk_mul, n_and, n_or, n_xor, nI_leI, nI_ltI, nI_eq, n_z, uI_s, uI_n, bI_n0, bI_n1, bT, bF, if_true, if_false, not_true, not_false_eq_true, pk_div, pk_rem, Nat.reduceEqDiff, Nat.reduceLeDiff, Nat.reduceLT, Nat.reduceAdd, Nat.reduceMul, Nat.reduceSub, Nat.not_lt_zero, Nat.zero_le, reduceCtorEq, ite_self, n_rem, and_self, and_true, true_and, and_false, false_and, h16b, pz, n_sub (show 1 ≤ P2.length + 1 by omega), Nat.add_sub_cancel, e0, c, ocV]
theorem sp_opened {P : List Nat} {out : List (Nat × Nat)} {p o : Nat} (ho : opq o = 1) (h64 : o < 64) (t : TpM I b n) (hp : p ≤ n) (k : TkM I J b n p) (hK : tK b n p ≠ 42) (hC : CoR I x0 P out) (h14 : I 89 14 = nI L) (h18 : I 89 18 = nI 0) (hw : Wp P) (h8 : opsN P ≤ 8) (hl : out.length + P.length ≤ tS b n p) : ∃ I' J', FrR x0 I I' ∧ OcM I' J' b n L x0 (opF b n o P out p) ∧ ∀ Q, Rn sc (d + 2) 204 0 [some (.ref 89), some (.int (nI o))] [] (K0, I, J, R1 T) Q = Q (some (.int (ocV (opF b n o P out p)))) (K0, I', J', R1 T) := by
  have h17 := hC.2.2.1
  have h16 := hC.2.1
  have l62 := wp_62 hw h8
  unfold opF
  by_cases c : opsN P = 8
  · rw [if_pos c]
    refine ⟨I, J, FrR_r, ⟨by decide, by decide, k.2.1⟩, fun Q => ?_⟩
    simp (disch := first | assumption | omega | decide) only [x204_0, x204_1, x204_2, x204_3, x204_4, x204_5, ↓reduceIte, Option.toList, List.nil_append, List.cons_append, nI_add, pk_mul, n_and, n_or, n_xor, nI_leI, nI_ltI, nI_eq, n_z, uI_s, uI_n, bI_n0, bI_n1, bT, bF, if_true, if_false, not_true, not_false_eq_true, pk_div, pk_rem, Nat.reduceEqDiff, Nat.reduceLeDiff, Nat.reduceLT, Nat.reduceAdd, Nat.reduceMul, Nat.reduceSub, Nat.not_lt_zero, Nat.zero_le, reduceCtorEq, ite_self, n_rem, and_self, and_true, true_and, and_false, false_and, h17, c, ocV]
  · rw [if_neg c]
    obtain ⟨w1, w2⟩ := wp_op hw ho h64
    obtain ⟨tk1, tk2⟩ := tk_st hp hK
    have p160 : P.length < 160 := by omega
    obtain ⟨I1, eI⟩ : ∃ X, X = uI (uI (uI I 89 17 (nI (opsN P + 1))) 94 P.length (nI o)) 89 16 (nI (P.length + 1)) := ⟨_, rfl⟩
    have g : ∀ c k, (c ≠ 89 ∨ (k ≠ 16 ∧ k ≠ 17)) → (c ≠ 94 ∨ k ≠ P.length) → I1 c k = I c k := fun c k a1 a2 => by rw [eI, uI_n (by omega), uI_n a2, uI_n (by omega)]
    have c1 : CoR I1 x0 (o :: P) out := by
      obtain ⟨a1, a2, a3, a4, a5, a6⟩ := hC
      exact ⟨⟨by rw [eI, uI_n (by omega), uI_s], PlL_c P (fun k hk => g _ _ (by omega) (by omega)) a1⟩, by rw [eI, uI_s, List.length_cons], by rw [eI, uI_n (by omega), uI_n (by omega), uI_s, w2], (g _ _ (by omega) (by omega)).trans a4, (g _ _ (by omega) (by omega)).trans a5, fun j hj => ⟨(g _ _ (by omega) (by omega)).trans (a6 j hj).1, (g _ _ (by omega) (by omega)).trans (a6 j hj).2⟩⟩
    have t1 : TpM I1 b n := TpM_r t (fun k hk => g _ _ (by omega) (by omega)) (fun k => g _ _ (by omega) (by omega))
    have k1 : TkM I1 J b n p := TkM_r k (fun k a1 a2 => g _ _ (by omega) (by omega))
    obtain ⟨I2, J2, f2, t2, k2, q2⟩ := nxM (sc := sc) (d := d) (T := T) t1 hp k1
    refine ⟨I2, J2, FrR_t (fun c k a1 _ a3 => g c k (by omega) (by omega)) (FrR_k f2), ⟨t2, tk1, k2, CoR_k c1 f2, ?_, ?_, w1, by rw [w2]; omega, ?_⟩, fun Q => ?_⟩
    · rw [f2 _ _ (by omega), g _ _ (by omega) (by omega)]
      exact h18
    · rw [f2 _ _ (by omega), g _ _ (by omega) (by omega)]
      exact h14
    · show out.length + (o :: P).length ≤ tS b n (tX b n p)
      rw [List.length_cons]
      omega
    · have g1 : ∀ v, uI I 89 17 v 89 16 = nI P.length := fun v => by rw [uI_n (by omega)]; exact h16
      have g2 : ∀ v w, uI (uI I 89 17 v) 94 P.length w 89 16 = nI P.length := fun v w => by rw [uI_n (by omega), uI_n (by omega)]; exact h16
      have q2' := q2
      rw [eI] at q2'
      simp (disch := first | assumption | omega | decide) only [x204_0, x204_1, x204_2, x204_3, x204_4, x204_5, x204_6, x204_7, x204_8, x204_9, x204_10, x204_11, x204_12, x204_13, x204_14, x204_15, x204_16, x204_17, x204_18, x204_19, x204_20, x204_21, x204_22, x204_23, x204_24, x204_25, x204_26, x204_27, ↓reduceIte, Option.toList, List.nil_append, List.cons_append, nI_add, pk_mul, n_and, n_or, n_xor, nI_leI, nI_ltI, nI_eq, n_z, uI_s, uI_n, bI_n0, bI_n1, bT, bF, if_true, if_false, not_true, not_false_eq_true, pk_div, pk_rem, Nat.reduceEqDiff, Nat.reduceLeDiff, Nat.reduceLT, Nat.reduceAdd, Nat.reduceMul, Nat.reduceSub, Nat.not_lt_zero, Nat.zero_le, reduceCtorEq, ite_self, n_rem, and_self, and_true, true_and, and_false, false_and, h17, h16, c, q2', ocV]
theorem sp_nameOf {p : Nat} (hp : p ≤ n) (hb : ∀ k, k < n → b k < 256) (k : TkM I J b n p) : ∀ Q, Rn sc (d + 5) 196 0 [some (.ref 89)] [] (K0, I, J, R1 T) Q = Q (some (.int (if 7 ≤ tK b n p ∧ tK b n p ≤ 15 then nI (kw (tK b n p)) else -1))) (K0, I, J, R1 T) := by
  intro Q
  obtain ⟨-, -, e9, -, e11⟩ := k
  have l1 := tT_lt (p := p) hb
  by_cases c : tT b n p = 2
  · have e11 := e11 c
    have lc := fun (V w : Nat) (hV : V = wV w) (hw : w < 28) (h0 : 0 < w) => lc_w (b := b) (n := n) (p := p) hV hp hb hw h0 c
    have a7 := lc 6578553 7 (by decide +kernel) (by decide) (by decide)
    have a9 := lc 448546567013 9 (by decide +kernel) (by decide) (by decide)
    have a10 := lc 121450625394034 10 (by decide +kernel) (by decide) (by decide)
    have a11 := lc 500136506472 11 (by decide +kernel) (by decide) (by decide)
    have a8 := lc 483006772069 8 (by decide +kernel) (by decide) (by decide)
    have a12 := lc 1852137842 12 (by decide +kernel) (by decide) (by decide)
    have a13 := lc 1718773093 13 (by decide +kernel) (by decide) (by decide)
    have a14 := lc 6384748 14 (by decide +kernel) (by decide) (by decide)
    have a15 := lc 115922835565925 15 (by decide +kernel) (by decide) (by decide)
    by_cases r : 7 ≤ tK b n p ∧ tK b n p ≤ 15
    · rw [if_pos r]
      have : tK b n p = 7 ∨ tK b n p = 8 ∨ tK b n p = 9 ∨ tK b n p = 10 ∨ tK b n p = 11 ∨ tK b n p = 12 ∨ tK b n p = 13 ∨ tK b n p = 14 ∨ tK b n p = 15 := by omega
      rcases this with e | e | e | e | e | e | e | e | e <;> (rw [e] at a7 a8 a9 a10 a11 a12 a13 a14 a15; rw [e]; simp (disch := first | assumption | omega | decide) only [x196_0, x196_1, x196_2, x196_3, x196_4, x196_5, x196_6, x196_7, x196_8, x196_9, x196_10, x196_11, x196_12, x196_13, x196_14, x196_15, x196_16, x196_17, x196_18, x196_19, x196_20, x196_21, x196_22, x196_23, x196_24, x196_25, x196_26, x196_27, x196_28, x196_29, x196_30, x196_31, x196_32, x196_33, x196_34, x196_35, x196_36, x196_37, x196_38, x196_39, x196_40, x196_41, x196_42, x196_43, x196_44, x196_45, x196_46, x196_47, x196_48, x196_49, x196_50, x196_51, x196_52, x196_53, x196_54, x196_55, x196_56, x196_57, x196_58, x196_59, x196_60, x196_61, x196_62, x196_63, x196_64, x196_65, x196_66, x196_67, x196_68, x196_69, x196_70, x196_71, x196_72, x196_73, x196_74, x196_75, x196_76, x196_77, x196_78, x196_79, x196_80, x196_81, x196_82, x196_83, x196_84, x196_85, x196_86, x196_87, x196_88, x196_89, x196_90, x196_91, x196_92, x196_93, x196_94, x196_95, x196_96, x196_97, x196_98, x196_99, x196_100, x196_101, x196_102, x196_103, x196_104, x196_105, x196_106, x196_107, x196_108, x196_109, x196_110, x196_111, ↓reduceIte, Option.toList, List.nil_append, List.cons_append, nI_add, pk_mul, n_and, n_or, n_xor, nI_leI, nI_ltI, nI_eq, n_z, uI_s, uI_n, bI_n0, bI_n1, bT, bF, if_true, if_false, not_true, not_false_eq_true, pk_div, pk_rem, Nat.reduceEqDiff, Nat.reduceLeDiff, Nat.reduceLT, Nat.reduceAdd, Nat.reduceMul, Nat.reduceSub, Nat.not_lt_zero, Nat.zero_le, reduceCtorEq, ite_self, n_rem, and_self, and_true, true_and, and_false, false_and, e9, c, e11, sp_w3, sp_w4, sp_w5, sp_w6, a7, a8, a9, a10, a11, a12, a13, a14, a15]; rfl)
    · rw [if_neg r]
      have n7 : ¬ tK b n p = 7 := by omega
      have n8 : ¬ tK b n p = 8 := by omega
      have n9 : ¬ tK b n p = 9 := by omega
      have n10 : ¬ tK b n p = 10 := by omega
      have n11 : ¬ tK b n p = 11 := by omega
      have n12 : ¬ tK b n p = 12 := by omega
      have n13 : ¬ tK b n p = 13 := by omega
      have n14 : ¬ tK b n p = 14 := by omega
      have n15 : ¬ tK b n p = 15 := by omega
      simp (disch := first | assumption | omega | decide) only [x196_0, x196_1, x196_2, x196_3, x196_4, x196_5, x196_6, x196_7, x196_8, x196_9, x196_10, x196_11, x196_12, x196_13, x196_14, x196_15, x196_16, x196_17, x196_18, x196_19, x196_20, x196_21, x196_22, x196_23, x196_24, x196_25, x196_26, x196_27, x196_28, x196_29, x196_30, x196_31, x196_32, x196_33, x196_34, x196_35, x196_36, x196_37, x196_38, x196_39, x196_40, x196_41, x196_42, x196_43, x196_44, x196_45, x196_46, x196_47, x196_48, x196_49, x196_50, x196_51, x196_52, x196_53, x196_54, x196_55, x196_56, x196_57, x196_58, x196_59, x196_60, x196_61, x196_62, x196_63, x196_64, x196_65, x196_66, x196_67, x196_68, x196_69, x196_70, x196_71, x196_72, x196_73, x196_74, x196_75, x196_76, x196_77, x196_78, x196_79, x196_80, x196_81, x196_82, x196_83, x196_84, x196_85, x196_86, x196_87, x196_88, x196_89, x196_90, x196_91, x196_92, x196_93, x196_94, x196_95, x196_96, x196_97, x196_98, x196_99, x196_100, x196_101, x196_102, x196_103, x196_104, x196_105, x196_106, x196_107, x196_108, x196_109, x196_110, x196_111, ↓reduceIte, Option.toList, List.nil_append, List.cons_append, nI_add, pk_mul, n_and, n_or, n_xor, nI_leI, nI_ltI, nI_eq, n_z, uI_s, uI_n, bI_n0, bI_n1, bT, bF, if_true, if_false, not_true, not_false_eq_true, pk_div, pk_rem, Nat.reduceEqDiff, Nat.reduceLeDiff, Nat.reduceLT, Nat.reduceAdd, Nat.reduceMul, Nat.reduceSub, Nat.not_lt_zero, Nat.zero_le, reduceCtorEq, ite_self, n_rem, and_self, and_true, true_and, and_false, false_and, e9, c, e11, sp_w3, sp_w4, sp_w5, sp_w6, a7, a8, a9, a10, a11, a12, a13, a14, a15, n7, n8, n9, n10, n11, n12, n13, n14, n15]
  · have r : ¬ (7 ≤ tK b n p ∧ tK b n p ≤ 15) := fun q => c ((tk_w hp (show tK b n p < 28 by omega)).mp rfl).1
    rw [if_neg r]
    simp (disch := first | assumption | omega | decide) only [x196_0, x196_1, x196_2, x196_3, x196_4, x196_5, ↓reduceIte, Option.toList, List.nil_append, List.cons_append, nI_add, pk_mul, n_and, n_or, n_xor, nI_leI, nI_ltI, nI_eq, n_z, uI_s, uI_n, bI_n0, bI_n1, bT, bF, if_true, if_false, not_true, not_false_eq_true, pk_div, pk_rem, Nat.reduceEqDiff, Nat.reduceLeDiff, Nat.reduceLT, Nat.reduceAdd, Nat.reduceMul, Nat.reduceSub, Nat.not_lt_zero, Nat.zero_le, reduceCtorEq, ite_self, n_rem, and_self, and_true, true_and, and_false, false_and, e9, c]
theorem sp_isOf {k : Nat} (hk : k < 9) (hL : L < 2) (h14 : I 89 14 = nI L) : ∀ Q, Rn sc d 197 0 [some (.ref 89), some (.int (nI k))] [] (K0, I, J, R1 T) Q = Q (some (.int (bI (k < 6 ∨ (k = 6 ∧ L = 0) ∨ (6 < k ∧ L = 1))))) (K0, I, J, R1 T) := by
  intro Q
  by_cases c1 : k < 6
  · rw [bI_t (Or.inl c1)]
    simp (disch := first | assumption | omega | decide) only [x197_0, x197_1, x197_2, x197_3, x197_4, x197_5, x197_6, x197_7, x197_8, x197_9, x197_10, x197_11, x197_12, x197_13, x197_14, x197_15, x197_16, x197_17, ↓reduceIte, Option.toList, List.nil_append, List.cons_append, nI_add, pk_mul, n_and, n_or, n_xor, nI_leI, nI_ltI, nI_eq, n_z, uI_s, uI_n, bI_n0, bI_n1, bT, bF, if_true, if_false, not_true, not_false_eq_true, pk_div, pk_rem, Nat.reduceEqDiff, Nat.reduceLeDiff, Nat.reduceLT, Nat.reduceAdd, Nat.reduceMul, Nat.reduceSub, Nat.not_lt_zero, Nat.zero_le, reduceCtorEq, ite_self, n_rem, and_self, and_true, true_and, and_false, false_and, c1]
  · by_cases c2 : k = 6
    · by_cases c3 : L = 0
      · rw [bI_t (Or.inr (Or.inl ⟨c2, c3⟩))]
        simp (disch := first | assumption | omega | decide) only [x197_0, x197_1, x197_2, x197_3, x197_4, x197_5, x197_6, x197_7, x197_8, x197_9, x197_10, x197_11, x197_12, x197_13, x197_14, x197_15, x197_16, x197_17, ↓reduceIte, Option.toList, List.nil_append, List.cons_append, nI_add, pk_mul, n_and, n_or, n_xor, nI_leI, nI_ltI, nI_eq, n_z, uI_s, uI_n, bI_n0, bI_n1, bT, bF, if_true, if_false, not_true, not_false_eq_true, pk_div, pk_rem, Nat.reduceEqDiff, Nat.reduceLeDiff, Nat.reduceLT, Nat.reduceAdd, Nat.reduceMul, Nat.reduceSub, Nat.not_lt_zero, Nat.zero_le, reduceCtorEq, ite_self, n_rem, and_self, and_true, true_and, and_false, false_and, c2, h14, c3]
      · rw [bI_f (by omega)]
        simp (disch := first | assumption | omega | decide) only [x197_0, x197_1, x197_2, x197_3, x197_4, x197_5, x197_6, x197_7, x197_8, x197_9, x197_10, x197_11, x197_12, x197_13, x197_14, x197_15, x197_16, x197_17, ↓reduceIte, Option.toList, List.nil_append, List.cons_append, nI_add, pk_mul, n_and, n_or, n_xor, nI_leI, nI_ltI, nI_eq, n_z, uI_s, uI_n, bI_n0, bI_n1, bT, bF, if_true, if_false, not_true, not_false_eq_true, pk_div, pk_rem, Nat.reduceEqDiff, Nat.reduceLeDiff, Nat.reduceLT, Nat.reduceAdd, Nat.reduceMul, Nat.reduceSub, Nat.not_lt_zero, Nat.zero_le, reduceCtorEq, ite_self, n_rem, and_self, and_true, true_and, and_false, false_and, c2, h14, c3]
    · by_cases c3 : L = 1
      · rw [bI_t (by omega)]
        simp (disch := first | assumption | omega | decide) only [x197_0, x197_1, x197_2, x197_3, x197_4, x197_5, x197_6, x197_7, x197_8, x197_9, x197_10, x197_11, x197_12, x197_13, x197_14, x197_15, x197_16, x197_17, ↓reduceIte, Option.toList, List.nil_append, List.cons_append, nI_add, pk_mul, n_and, n_or, n_xor, nI_leI, nI_ltI, nI_eq, n_z, uI_s, uI_n, bI_n0, bI_n1, bT, bF, if_true, if_false, not_true, not_false_eq_true, pk_div, pk_rem, Nat.reduceEqDiff, Nat.reduceLeDiff, Nat.reduceLT, Nat.reduceAdd, Nat.reduceMul, Nat.reduceSub, Nat.not_lt_zero, Nat.zero_le, reduceCtorEq, ite_self, n_rem, and_self, and_true, true_and, and_false, false_and, c1, c2, h14, c3]
      · rw [bI_f (by omega)]
        simp (disch := first | assumption | omega | decide) only [x197_0, x197_1, x197_2, x197_3, x197_4, x197_5, x197_6, x197_7, x197_8, x197_9, x197_10, x197_11, x197_12, x197_13, x197_14, x197_15, x197_16, x197_17, ↓reduceIte, Option.toList, List.nil_append, List.cons_append, nI_add, pk_mul, n_and, n_or, n_xor, nI_leI, nI_ltI, nI_eq, n_z, uI_s, uI_n, bI_n0, bI_n1, bT, bF, if_true, if_false, not_true, not_false_eq_true, pk_div, pk_rem, Nat.reduceEqDiff, Nat.reduceLeDiff, Nat.reduceLT, Nat.reduceAdd, Nat.reduceMul, Nat.reduceSub, Nat.not_lt_zero, Nat.zero_le, reduceCtorEq, ite_self, n_rem, and_self, and_true, true_and, and_false, false_and, c1, c2, h14, c3]
end RefS
