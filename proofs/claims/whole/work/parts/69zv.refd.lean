/-! clauses: the reference's reading -/
def NzR (n : Nat) (r : Nat → Rs) : Prop := ∀ p, p ≤ n → ∀ f x, r p = .inl (f, x) → 0 < f ∧ f < 7
section Nz
variable {b : Nat → Nat} {n L : Nat}
theorem bnd_e {r : Rs} {f : Cd → Nat → Rs} {g x : Nat} (h : bnd r f = .inl (g, x)) : r = .inl (g, x) ∨ ∃ c p, r = .inr (c, p) ∧ f c p = .inl (g, x) := by
  cases r with
  | inl e => exact Or.inl h
  | inr v =>
    obtain ⟨c, p⟩ := v
    exact Or.inr ⟨c, p, rfl, h⟩
theorem nz_x {w p f x : Nat} {c : Cd} (h : xpt b n w c p = .inl (f, x)) : 0 < f ∧ f < 7 := by
  unfold xpt at h
  split at h
  · cases h
  · have := (Prod.mk.inj (Sum.inl.inj h)).1
    omega
theorem nz_l {iso : Nat → Bool} {cmb : Nat → Cd → Cd → Cd} {sub : Nat → Rs} (hi : iso 42 = false) (hs : NzR n sub) (ln : LnR b n sub) : ∀ m c p, p ≤ n → ∀ f x, lpO b n iso cmb sub m c p = .inl (f, x) → 0 < f ∧ f < 7
  | 0, c, p, hp, f, x, h => by
    rw [lpO] at h
    cases h
  | m + 1, c, p, hp, f, x, h => by
    rw [lpO] at h
    by_cases ck : iso (tK b n p) = true
    · rw [if_pos ck] at h
      have k42 : tK b n p ≠ 42 := fun e => by
        rw [e, hi] at ck
        cases ck
      obtain ⟨t1, -⟩ := tk_st hp k42
      rcases bnd_e h with e | ⟨c2, p2, e, h2⟩
      · exact hs _ t1 f x e
      · exact nz_l hi hs ln m _ p2 (ln _ t1 c2 p2 e).1 f x h2
    · rw [if_neg ck] at h
      cases h
theorem nz_prd {one : Nat → Rs} (h1 : NzR n one) (ln : LnR b n one) : NzR n (prd b n one) := fun p hp f x h => by
  rcases bnd_e h with e | ⟨c, p1, e, h2⟩
  · exact h1 p hp f x e
  · exact nz_l (by decide) h1 ln 300 c p1 (ln p hp c p1 e).1 f x h2
theorem nz_sm {one : Nat → Rs} (h1 : NzR n one) (ln : LnR b n one) : NzR n (smr b n one) := fun p hp f x h => by
  rcases bnd_e h with e | ⟨c, p1, e, h2⟩
  · exact nz_prd h1 ln p hp f x e
  · exact nz_l (by decide) (nz_prd h1 ln) (ln_prd ln) 300 c p1 (ln_prd ln p hp c p1 e).1 f x h2
theorem nz_bth {ask : Nat → Rs} (h1 : NzR n ask) (ln : LnR b n ask) : NzR n (bth b n ask) := fun p hp f x h => by
  rcases bnd_e h with e | ⟨c, p1, e, h2⟩
  · exact h1 p hp f x e
  · exact nz_l (by decide) h1 ln 300 c p1 (ln p hp c p1 e).1 f x h2
theorem nz_eth {ask : Nat → Rs} (h1 : NzR n ask) (ln : LnR b n ask) : NzR n (eth b n ask) := fun p hp f x h => by
  rcases bnd_e h with e | ⟨c, p1, e, h2⟩
  · exact nz_bth h1 ln p hp f x e
  · exact nz_l (by decide) (nz_bth h1 ln) (ln_bth ln) 300 c p1 (ln_bth ln p hp c p1 e).1 f x h2
theorem inl_i {f x g y : Nat} (h : (Sum.inl (f, x) : Rs) = .inl (g, y)) : f = g ∧ x = y := Prod.mk.inj (Sum.inl.inj h)
theorem nz_ask {one nt : Nat → Rs} (h1 : NzR n one) (ln : LnR b n one) (h2 : ∀ p, p ≤ n → tK b n p = 27 → ∀ f x, nt p = .inl (f, x) → 0 < f ∧ f < 7) : NzR n (askS b n one nt) := fun p hp f x h => by
  unfold askS at h
  by_cases c0 : tK b n p = 27
  · rw [if_pos c0] at h
    exact h2 p hp c0 f x h
  · rw [if_neg c0] at h
    rcases bnd_e h with e | ⟨c, p1, e, h3⟩
    · exact nz_sm h1 ln p hp f x e
    · by_cases cc : isCmp (tK b n p1) = true
      · rw [if_pos cc] at h3
        have cc' := of_decide_eq_true cc
        obtain ⟨t1, -⟩ := tk_st (ln_smr ln p hp c p1 e).1 (show tK b n p1 ≠ 42 by omega)
        rcases bnd_e h3 with e2 | ⟨c2, p2, e2, h4⟩
        · exact nz_sm h1 ln _ t1 f x e2
        · cases h4
      · rw [if_neg cc] at h3
        have := (inl_i h3).1
        omega
theorem nz_one {opn : Nat → Rs} (h2 : ∀ p, p ≤ n → tK b n p ≠ 42 → ∀ f x, opn p = .inl (f, x) → 0 < f ∧ f < 7) : NzR n (oneS b n L opn) := fun p hp f x h => by
  unfold oneS at h
  by_cases c1 : tK b n p = 41
  · rw [if_pos c1] at h
    split at h
    · cases h
    · have := (inl_i h).1
      omega
  · rw [if_neg c1] at h
    by_cases c2 : 7 ≤ tK b n p ∧ tK b n p ≤ 15
    · rw [if_pos c2] at h
      split at h
      · have := (inl_i h).1
        omega
      · cases h
    · rw [if_neg c2] at h
      by_cases c3 : tK b n p = 36 ∨ tK b n p = 33 ∨ tK b n p = 19 ∨ tK b n p = 20 ∨ tK b n p = 21
      · rw [if_pos c3] at h
        exact h2 p hp (by omega) f x h
      · rw [if_neg c3] at h
        have := (inl_i h).1
        omega
theorem nz_op {one ask : Nat → Rs} (h1 : NzR n one) (h2 : NzR n ask) (l1 : LnR b n one) (l2 : LnR b n ask) : ∀ p, p ≤ n → tK b n p ≠ 42 → ∀ f x, opnS b n one ask p = .inl (f, x) → 0 < f ∧ f < 7 := fun p hp k42 f x h => by
  obtain ⟨t1, -⟩ := tk_st hp k42
  unfold opnS at h
  split at h
  · rcases bnd_e h with e | ⟨c, p1, e, h3⟩
    · exact nz_sm h1 l1 _ t1 f x e
    · exact nz_x h3
  · split at h
    · unfold chc at h
      rcases bnd_e h with e | ⟨c1, p1, e1, h3⟩
      · exact nz_eth h2 l2 _ t1 f x e
      rcases bnd_e h3 with e | ⟨c2, p2, e2, h4⟩
      · exact nz_x e
      obtain ⟨-, -, x3, -⟩ := ln_x (ln_eth l2 _ t1 c1 p1 e1).1 (by decide) e2
      rcases bnd_e h4 with e | ⟨c3, p3, e3, h5⟩
      · exact nz_sm h1 l1 _ x3 f x e
      rcases bnd_e h5 with e | ⟨c4, p4, e4, h6⟩
      · exact nz_x e
      obtain ⟨-, -, y3, -⟩ := ln_x (ln_smr l1 _ x3 c3 p3 e3).1 (by decide) e4
      rcases bnd_e h6 with e | ⟨c5, p5, e5, h7⟩
      · exact nz_sm h1 l1 _ y3 f x e
      rcases bnd_e h7 with e | ⟨c6, p6, e6, h8⟩
      · exact nz_x e
      cases h8
    · split at h
      · rcases bnd_e h with e | ⟨c1, p1, e1, h3⟩
        · exact h1 _ t1 f x e
        rcases bnd_e h3 with e | ⟨c2, p2, e2, h4⟩
        · exact nz_x e
        obtain ⟨-, -, x3, -⟩ := ln_x (l1 _ t1 c1 p1 e1).1 (by decide) e2
        rcases bnd_e h4 with e | ⟨c3, p3, e3, h5⟩
        · exact h1 _ x3 f x e
        cases h5
      · rcases bnd_e h with e | ⟨c1, p1, e1, h3⟩
        · exact h1 _ t1 f x e
        cases h3
theorem nz_lv : ∀ D, NzR n (lv1 b n L D).1 ∧ NzR n (lv1 b n L D).2
  | 0 => by
    have d3 : ∀ p f x, dpF b n p = .inl (f, x) → 0 < f ∧ f < 7 := fun p f x h => by
      have := (inl_i h).1
      omega
    have h1 : NzR n (lv1 b n L 0).1 := nz_one (fun p hp _ f x h => d3 p f x h)
    exact ⟨h1, nz_ask h1 (ln_lv 0).1 (fun p hp _ f x h => d3 p f x h)⟩
  | D + 1 => by
    obtain ⟨i1, i2⟩ := nz_lv D
    have h1 : NzR n (lv1 b n L (D + 1)).1 := nz_one (nz_op i1 i2 (ln_lv D).1 (ln_lv D).2)
    refine ⟨h1, nz_ask h1 (ln_lv (D + 1)).1 (fun p hp k f x h => ?_)⟩
    obtain ⟨t1, -⟩ := tk_st hp (show tK b n p ≠ 42 by omega)
    rcases bnd_e h with e | ⟨c, p1, e, h3⟩
    · exact i2 _ t1 f x e
    · cases h3
theorem nz_smr {p f x : Nat} (hp : p ≤ n) (h : smr b n (lv1 b n L 8).1 p = .inl (f, x)) : 0 < f ∧ f < 7 := nz_sm (nz_lv 8).1 (ln_lv 8).1 p hp f x h
end Nz
section RefD
variable {sc : Sc} {d : Nat} {T : Option Nat} {b : Nat → Nat} {n L x0 : Nat} {I : Nat → Nat → Int32} {J : Nat → Nat → Int64}
theorem sp_go (hx : x0 ≤ 2043) (hL : L < 2) : ∀ (k : Nat) (s : Rst) (I : Nat → Nat → Int32) (J : Nat → Nat → Int64) (v : Nat × Nat × List (Nat × Nat)), RsM I J b n L x0 s → itR b n L k s = .inl v → ∃ I' J', FrR x0 I I' ∧ FiM I' J' b n x0 v ∧ ∀ u Q, Rn sc (d + 8) 211 9 [some (.ref 89), u] [] (K0, I, J, R1 T) Q = Q (some (.int (nI v.1))) (K0, I', J', R1 T)
  | 0, s, I, J, v, h, e => by cases e
  | k + 1, s, I, J, v, h, e => by
    have st := sp_step (sc := sc) (d := d) (T := T) hx hL h
    rw [itR] at e
    rcases e1 : stpR b n L s with w | s'
    · rw [e1] at st e
      have ev : w = v := Sum.inl.inj e
      rw [← ev]
      exact st
    · rw [e1] at st e
      obtain ⟨I1, J1, f1, r1, q1⟩ := st
      obtain ⟨I2, J2, f2, r2, q2⟩ := sp_go hx hL k s' I1 J1 v r1 e
      exact ⟨I2, J2, FrR_t f1 f2, r2, fun u Q => (q1 u Q).trans (q2 _ Q)⟩
/-- a law's sum -/
theorem sp_sumM {out : List (Nat × Nat)} {p : Nat} (hx : x0 ≤ 2043) (hL : L < 2) (t : TpM I b n) (hp : p ≤ n) (k : TkM I J b n p) (h12 : I 89 12 = nI x0) (h14 : I 89 14 = nI L) (ho : OtM I x0 out) (hl : out.length ≤ tS b n p) : ∃ I' J', FrR x0 I I' ∧ RsO (smr b n (lv1 b n L 8).1 p) (fun f x => f < 8 ∧ 0 < f ∧ I' 89 8 = nI x ∧ ∀ Q, Rn sc (d + 8) 211 0 [some (.ref 89), none] [] (K0, I, J, R1 T) Q = Q (some (.int (nI f))) (K0, I', J', R1 T)) (fun c p' => (TpM I' b n ∧ p' ≤ n ∧ TkM I' J' b n p' ∧ OtM I' x0 (out ++ c.2) ∧ (out ++ c.2).length ≤ tS b n p') ∧ ∀ Q, Rn sc (d + 8) 211 0 [some (.ref 89), none] [] (K0, I, J, R1 T) Q = Q (some (.int (nI 0))) (K0, I', J', R1 T)) := by
  obtain ⟨I1, eI⟩ : ∃ X, X = uI (uI (uI I 89 16 (nI 0)) 89 17 (nI 0)) 89 18 (nI 0) := ⟨_, rfl⟩
  have g : ∀ c k, (c ≠ 89 ∨ k < 16 ∨ 18 < k) → I1 c k = I c k := fun c k hc => by rw [eI, uI_n (by omega), uI_n (by omega), uI_n (by omega)]
  have r1 : RsM I1 J b n L x0 (false, [], out, p) := mkR (TpM_r t (fun k hk => g _ _ (by omega)) (fun k => g _ _ (by omega))) hp (TkM_r k (fun k a1 a2 => g _ _ (by omega))) ⟨trivial, by rw [eI, uI_n (by omega), uI_n (by omega), uI_s]; rfl, by rw [eI, uI_n (by omega), uI_s]; rfl, (g _ _ (by omega)).trans h12, (g _ _ (by omega)).trans ho.1, fun j hj => ⟨(g _ _ (by omega)).trans (ho.2 j hj).1, (g _ _ (by omega)).trans (ho.2 j hj).2⟩⟩ (by rw [eI, uI_s]; rfl) ((g _ _ (by omega)).trans h14) trivial (by decide) (by omega)
  have f1 : FrR x0 I I1 := fun c k a1 _ _ => g c k (by omega)
  have st : ∀ Q, Rn sc (d + 8) 211 0 [some (.ref 89), none] [] (K0, I, J, R1 T) Q = Rn sc (d + 8) 211 9 [some (.ref 89), none] [] (K0, I1, J, R1 T) Q := fun Q => by
    rw [eI]
    simp (disch := first | assumption | omega | decide) only [x211_0, x211_1, x211_2, x211_3, x211_4, x211_5, x211_6, x211_7, x211_8, ↓reduceIte, Option.toList, List.nil_append, List.cons_append, nI_add, pk_mul, n_and, n_or, n_xor, nI_leI, nI_ltI, nI_eq, n_z, uI_s, uI_n, bI_n0, bI_n1, bT, bF, if_true, if_false, not_true, not_false_eq_true, pk_div, pk_rem, Nat.reduceEqDiff, Nat.reduceLeDiff, Nat.reduceLT, Nat.reduceAdd, Nat.reduceMul, Nat.reduceSub, Nat.not_lt_zero, Nat.zero_le, reduceCtorEq, ite_self, n_rem, and_self, and_true, true_and, and_false, false_and]
  have hs := eq_sum (b := b) (n := n) (L := L) t.1 (out := out) hp
  rcases e1 : smr b n (lv1 b n L 8).1 p with ⟨f, x⟩ | ⟨c, p'⟩
  · rw [e1] at hs
    obtain ⟨κ, hκ⟩ : Go b n L (false, [], out, p) (.inl (f, x, [])) := hs
    obtain ⟨I2, J2, f2, r2, q2⟩ := sp_go (sc := sc) (d := d) (T := T) hx hL κ _ I1 J _ r1 hκ
    have nz := nz_smr hp e1
    have f0 : f ≠ 0 := by omega
    obtain ⟨r3, r4⟩ := r2.2 f0
    exact ⟨I2, J2, FrR_t f1 f2, r3, by omega, r4, fun Q => (st Q).trans (q2 _ Q)⟩
  · rw [e1] at hs
    obtain ⟨κ, hκ⟩ : Go b n L (false, [], out, p) (.inl (0, p', out ++ c.2)) := hs
    obtain ⟨I2, J2, f2, r2, q2⟩ := sp_go (sc := sc) (d := d) (T := T) hx hL κ _ I1 J _ r1 hκ
    exact ⟨I2, J2, FrR_t f1 f2, r2.1 rfl, fun Q => (st Q).trans (q2 _ Q)⟩
end RefD
