/-! the pile comes to what the descent comes to -/
def itR (b : Nat → Nat) (n L : Nat) : Nat → Rst → Oc
  | 0, s => .inr s
  | k + 1, s => match stpR b n L s with
    | .inl v => .inl v
    | .inr s' => itR b n L k s'
def Go (b : Nat → Nat) (n L : Nat) (s : Rst) (o : Oc) : Prop := ∃ k, itR b n L k s = o
def RsO (r : Rs) (A : Nat → Nat → Prop) (B : Cd → Nat → Prop) : Prop := match r with
  | .inl (f, x) => A f x
  | .inr (c, p) => B c p
def mp (Q : List Nat) : List (Nat × Nat) := Q.map (fun x => (x, 0))
def HdL (k : Nat) (P : List Nat) : Prop := ∀ y R, P = y :: R → rk y < k ∧ y ≠ 41
theorem mp_a {Q R : List Nat} : mp (Q ++ R) = mp Q ++ mp R := List.map_append
theorem st_app {k : Nat} {P : List Nat} : ∀ (Q : List Nat) (out : List (Nat × Nat)), (∀ x, x ∈ Q → k ≤ rk x) → stl k (Q ++ P) out = stl k P (out ++ mp Q)
  | [], out, _ => by
    show stl k P out = stl k P (out ++ [])
    rw [List.append_nil]
  | x :: Q, out, h => by
    show stl k (x :: (Q ++ P)) out = _
    rw [stl, if_pos (h x (List.mem_cons_self ..)), st_app Q _ (fun y hy => h y (List.mem_cons_of_mem _ hy))]
    show stl k P (out ++ [(x, 0)] ++ mp Q) = stl k P (out ++ ((x, 0) :: mp Q))
    rw [List.append_assoc]
    rfl
theorem st_stop {k : Nat} {P : List Nat} {out : List (Nat × Nat)} (h : HdL k P) : stl k P out = (P, out) := by
  cases P with
  | nil => rfl
  | cons y R =>
    have := (h y R rfl).1
    rw [stl, if_neg (by omega)]
theorem opW_a {P : List Nat} : ∀ (Q : List Nat), (∀ x, x ∈ Q → 1 ≤ rk x) → opW (Q ++ P) = opW P
  | [], _ => rfl
  | x :: Q, h => by
    have h1 := h x (List.mem_cons_self ..)
    show opW (x :: (Q ++ P)) = _
    rw [opW, if_neg (fun q => by rw [rk_0.mpr q] at h1; omega), opW_a Q (fun y hy => h y (List.mem_cons_of_mem _ hy))]
theorem isCm_a {P : List Nat} : ∀ (Q : List Nat), (∀ x, x ∈ Q → 4 < rk x) → isCm (Q ++ P) = isCm P
  | [], _ => rfl
  | x :: Q, h => by
    show isCm (x :: (Q ++ P)) = _
    rw [isCm, if_pos (h x (List.mem_cons_self ..)), isCm_a Q (fun y hy => h y (List.mem_cons_of_mem _ hy))]
theorem ap_c {Q P : List Nat} {o : Nat} : Q ++ o :: P = (Q ++ [o]) ++ P := by rw [List.append_assoc]; rfl
section Equiv
variable {b : Nat → Nat} {n L : Nat}
theorem it_add : ∀ k k' s s', itR b n L k s = .inr s' → itR b n L (k + k') s = itR b n L k' s'
  | 0, k', s, s', h => by
    have : s = s' := Sum.inr.inj h
    rw [this, Nat.zero_add]
  | k + 1, k', s, s', h => by
    rw [show k + 1 + k' = k + k' + 1 by omega, itR]
    rw [itR] at h
    cases e : stpR b n L s with
    | inl v =>
      rw [e] at h
      cases h
    | inr s1 =>
      rw [e] at h
      exact it_add k k' s1 s' h
theorem go_t {s s' : Rst} {o : Oc} (h : Go b n L s (.inr s')) (h' : Go b n L s' o) : Go b n L s o := by
  obtain ⟨k, hk⟩ := h
  obtain ⟨k', hk'⟩ := h'
  exact ⟨k + k', (it_add k k' s s' hk).trans hk'⟩
theorem go_1 {s : Rst} : Go b n L s (stpR b n L s) := by
  refine ⟨1, ?_⟩
  rw [itR]
  cases e : stpR b n L s with
  | inl v => rfl
  | inr s1 => rfl
theorem go_r {s : Rst} : Go b n L s (.inr s) := ⟨0, rfl⟩
theorem go_b {P : List Nat} {out : List (Nat × Nat)} {p : Nat} {o : Oc} (h : begF b n L P out p = o) : Go b n L (false, P, out, p) o := by
  rw [← h]
  exact go_1
theorem stp_t {P : List Nat} {out : List (Nat × Nat)} {p : Nat} : stpR b n L (true, P, out, p) = if btwF b n P p = 0 ∧ prtF b n P p = 0 then (if opW P = 0 then .inl (0, p, (stl 1 P out).2) else .inl (1, tS b n p, [])) else behF b n P out p := rfl
/-- a sign between two -/
theorem go_o {P P1 : List Nat} {out out1 : List (Nat × Nat)} {p o : Nat} (h : btwF b n P p = o) (h0 : o ≠ 0) (hs : stl (if rk o = 4 then 5 else rk o) P out = (P1, out1)) : Go b n L (true, P, out, p) (.inr (false, o :: P1, out1, tX b n p)) := by
  have e : stpR b n L (true, P, out, p) = .inr (false, o :: P1, out1, tX b n p) := by
    have e1 : stpR b n L (true, P, out, p) = behF b n P out p := by
      rw [stp_t, if_neg (fun q => h0 (h.symm.trans q.1))]
    rw [e1]
    unfold behF
    rw [h, if_pos h0, hs]
  rw [← e]
  exact go_1
/-- the part of what is open that comes next -/
theorem go_p {P P1 : List Nat} {out out1 : List (Nat × Nat)} {p q w : Nat} (h : btwF b n P p = 0) (hq : prtF b n P p = q) (h0 : q ≠ 0) (h1 : q ≠ 1) (hs : stl 1 P out = (w :: P1, out1)) : Go b n L (true, P, out, p) (.inr (false, q :: P1, out1, tX b n p)) := by
  have e : stpR b n L (true, P, out, p) = .inr (false, q :: P1, out1, tX b n p) := by
    have e1 : stpR b n L (true, P, out, p) = behF b n P out p := by
      rw [stp_t, if_neg (fun r => h0 (hq.symm.trans r.2))]
    rw [e1]
    unfold behF
    rw [h, if_neg (fun r => r rfl), hq, if_neg h1, hs]
    rfl
  rw [← e]
  exact go_1
/-- it is shut -/
theorem go_s {P P1 : List Nat} {out out1 : List (Nat × Nat)} {p w : Nat} (h : btwF b n P p = 0) (hq : prtF b n P p = 1) (hs : stl 1 P out = (w :: P1, out1)) : Go b n L (true, P, out, p) (endF b n P1 (out1 ++ (if opW P = 44 then [(3, 0)] else [])) (tX b n p)) := by
  have e : stpR b n L (true, P, out, p) = endF b n P1 (out1 ++ (if opW P = 44 then [(3, 0)] else [])) (tX b n p) := by
    have e1 : stpR b n L (true, P, out, p) = behF b n P out p := by
      rw [stp_t, if_neg (fun r => absurd (hq.symm.trans r.2) (show ¬ (1 : Nat) = 0 by decide))]
    rw [e1]
    unfold behF
    rw [h, if_neg (fun r => r rfl), hq, if_pos rfl, hs]
    rfl
  rw [← e]
  exact go_1
/-- nothing goes on -/
theorem go_f {P : List Nat} {out : List (Nat × Nat)} {p : Nat} (h : btwF b n P p = 0) (hq : prtF b n P p = 0) (ho : opW P ≠ 0) : Go b n L (true, P, out, p) (.inl (1, tS b n p, [])) := by
  have e : stpR b n L (true, P, out, p) = .inl (1, tS b n p, []) := by
    have e1 : stpR b n L (true, P, out, p) = if opW P = 0 then .inl (0, p, (stl 1 P out).2) else .inl (1, tS b n p, []) := by
      rw [stp_t, if_pos ⟨h, hq⟩]
    rw [e1, if_neg ho]
  rw [← e]
  exact go_1
theorem ef {P : List Nat} {out : List (Nat × Nat)} {p : Nat} (h : HdL 7 P) : endF b n P out p = .inr (true, P, out, p) := by
  unfold endF
  rw [st_stop h]
  show (if P.head? = some 41 then _ else _) = _
  rw [if_neg]
  intro e
  cases P with
  | nil => cases e
  | cons y R => exact (h y R rfl).2 (Option.some.inj e)
theorem hd_m {k k' : Nat} {P : List Nat} (h : HdL k P) (hk : k ≤ k') : HdL k' P := fun y R e => ⟨Nat.lt_of_lt_of_le (h y R e).1 hk, (h y R e).2⟩
theorem hd_o {k o : Nat} {P : List Nat} (h : rk o < k) (h41 : o ≠ 41) : HdL k (o :: P) := fun y R e => by
  have : o = y := (List.cons.inj e).1
  rw [← this]
  exact ⟨h, h41⟩
def EqO (b : Nat → Nat) (n L : Nat) (one : Nat → Rs) (D : Nat) : Prop := ∀ P out p, p ≤ n → opsN P + D = 8 → (tK b n p = 27 → ¬ askA P = true) → RsO (one p) (fun f x => Go b n L (false, P, out, p) (.inl (f, x, []))) (fun c p' => Go b n L (false, P, out, p) (endF b n P (out ++ c.2) p'))
/-- behind a product -/
def PdP (b : Nat → Nat) (n L : Nat) (s : Rst) (P : List Nat) (out : List (Nat × Nat)) (c : Cd) (p' : Nat) : Prop := ∃ Q out', (∀ x, x ∈ Q → x = 8 ∨ x = 9) ∧ out' ++ mp Q = out ++ c.2 ∧ Go b n L s (.inr (true, Q ++ P, out', p')) ∧ isMul (tK b n p') = false
def SmP (b : Nat → Nat) (n L : Nat) (s : Rst) (P : List Nat) (out : List (Nat × Nat)) (c : Cd) (p' : Nat) : Prop := ∃ Q out', (∀ x, x ∈ Q → 6 ≤ x ∧ x ≤ 9) ∧ out' ++ mp Q = out ++ c.2 ∧ Go b n L s (.inr (true, Q ++ P, out', p')) ∧ isMul (tK b n p') = false ∧ isAdd (tK b n p') = false
def AsP (k : Nat) (b : Nat → Nat) (n L : Nat) (s : Rst) (P : List Nat) (out : List (Nat × Nat)) (c : Cd) (p' : Nat) : Prop := ∃ Q out', (∀ x, x ∈ Q → k ≤ rk x) ∧ out' ++ mp Q = out ++ c.2 ∧ Go b n L s (.inr (true, Q ++ P, out', p')) ∧ isCm (Q ++ P) = true ∧ isMul (tK b n p') = false ∧ isAdd (tK b n p') = false ∧ (k ≤ 2 → tK b n p' ≠ 26) ∧ (k ≤ 1 → tK b n p' ≠ 25)
theorem mul_n {p : Nat} (h : isMul (tK b n p) = false) : tK b n p ≠ 34 ∧ tK b n p ≠ 35 := by
  have := of_decide_eq_false h
  omega
theorem add_n {p : Nat} (h : isAdd (tK b n p) = false) : tK b n p ≠ 32 ∧ tK b n p ≠ 33 := by
  have := of_decide_eq_false h
  omega
theorem bt_ar {P : List Nat} {p : Nat} (h1 : isMul (tK b n p) = false) (h2 : isAdd (tK b n p) = false) : btwF b n P p = if ¬ opW P = 42 then 0 else if ¬ isCm P = true then (if isCmp (tK b n p) = true then cmM (tK b n p) else 0) else if tK b n p = 26 then 21 else if tK b n p = 25 then 22 else 0 := by
  obtain ⟨a1, a2⟩ := mul_n h1
  obtain ⟨a3, a4⟩ := add_n h2
  unfold btwF
  rw [if_neg a3, if_neg a4, if_neg a1, if_neg a2]
theorem k_42 {p : Nat} (n3 : n ≤ 300) (h : 300 ≤ tS b n p) : tK b n p = 42 := tK_42.mpr (by omega)
theorem nask {P : List Nat} {o : Nat} (h : ¬ (1 ≤ rk o ∧ rk o ≤ 3)) (h2 : o < 40 ∨ o ≠ 42) : ¬ askA (o :: P) = true := by
  intro q
  have h' : (decide (opW (o :: P) = 42) && (decide (40 ≤ o) || decide (1 ≤ rk o ∧ rk o ≤ 3))) = true := q
  rw [Bool.and_eq_true, Bool.or_eq_true, decide_eq_true_eq, decide_eq_true_eq, decide_eq_true_eq] at h'
  obtain ⟨h3, h4⟩ := h'
  rcases h4 with h4 | h4
  · rw [opW, if_pos h4] at h3
    omega
  · exact h h4
theorem eq_prd {one : Nat → Rs} {D : Nat} (n3 : n ≤ 300) (h1 : EqO b n L one D) (ln : LnR b n one) : ∀ P out p, p ≤ n → opsN P + D = 8 → HdL 6 P → (tK b n p = 27 → ¬ askA P = true) → RsO (prd b n one p) (fun f x => Go b n L (false, P, out, p) (.inl (f, x, []))) (fun c p' => PdP b n L (false, P, out, p) P out c p') := by
  intro P out p hp ho hd hN
  have loop : ∀ m c p1 Q out', p1 ≤ n → 300 ≤ tS b n p1 + m → (∀ x, x ∈ Q → x = 8 ∨ x = 9) → out' ++ mp Q = out ++ c.2 → Go b n L (false, P, out, p) (.inr (true, Q ++ P, out', p1)) → RsO (lpO b n isMul cB one m c p1) (fun f x => Go b n L (false, P, out, p) (.inl (f, x, []))) (fun c p' => PdP b n L (false, P, out, p) P out c p') := by
    intro m
    induction m with
    | zero =>
      intro c p1 Q out' hp1 h3 hQ ho' hg
      have k42 := k_42 n3 (show 300 ≤ tS b n p1 by omega)
      exact ⟨Q, out', hQ, ho', hg, by rw [k42]; decide⟩
    | succ m ih =>
      intro c p1 Q out' hp1 h3 hQ ho' hg
      rw [lpO]
      by_cases ck : isMul (tK b n p1) = true
      · rw [if_pos ck]
        have ck' := of_decide_eq_true ck
        obtain ⟨tk1, tk2⟩ := tk_st hp1 (show tK b n p1 ≠ 42 by omega)
        obtain ⟨o, eo⟩ : ∃ o, o = tK b n p1 - 26 := ⟨_, rfl⟩
        have o89 : o = 8 ∨ o = 9 := by omega
        have rk6 : rk o = 6 ∧ opq o = 0 ∧ o ≠ 41 := by
          rcases o89 with e | e <;> rw [e] <;> decide
        have hb : btwF b n (Q ++ P) p1 = o := by
          unfold btwF
          rcases ck' with e | e
          · rw [if_neg (by omega), if_neg (by omega), if_pos e, eo, e]
          · rw [if_neg (by omega), if_neg (by omega), if_neg (by omega), if_pos e, eo, e]
        have hs : stl (if rk o = 4 then 5 else rk o) (Q ++ P) out' = (P, out ++ c.2) := by
          rw [rk6.1, if_neg (by decide), st_app Q _ (fun x hx => by rcases hQ x hx with e | e <;> rw [e] <;> decide), ho', st_stop hd]
        have g1 := go_t hg (go_o (L := L) hb (by omega) hs)
        have op : opsN (o :: P) + D = 8 := by
          show opq o + opsN P + D = 8
          omega
        have h2 := h1 (o :: P) (out ++ c.2) (tX b n p1) tk1 op (fun _ => nask (by omega) (by omega))
        rcases e1 : one (tX b n p1) with ⟨f, x⟩ | ⟨c2, p2⟩
        · rw [e1] at h2
          exact go_t g1 h2
        · rw [e1] at h2
          have h2 : Go b n L (false, o :: P, out ++ c.2, tX b n p1) (endF b n (o :: P) (out ++ c.2 ++ c2.2) p2) := h2
          rw [ef (hd_o (by omega) rk6.2.2)] at h2
          obtain ⟨l1, l2, l3⟩ := ln _ tk1 c2 p2 e1
          rw [bnd_r]
          refine ih (cB (tK b n p1) c c2) p2 [o] (out ++ c.2 ++ c2.2) l1 (by omega) (fun x hx => ?_) ?_ (go_t g1 h2)
          · rcases List.mem_cons.mp hx with e | e
            · rw [e]; exact o89
            · cases e
          · unfold cB
            rw [eo]
            simp only [List.append_assoc]
            rfl
      · rw [if_neg ck]
        have cf : isMul (tK b n p1) = false := by
          cases cc : isMul (tK b n p1)
          · rfl
          · exact absurd cc ck
        exact ⟨Q, out', hQ, ho', hg, cf⟩
  unfold prd
  have h2 := h1 P out p hp ho hN
  rcases e1 : one p with ⟨f, x⟩ | ⟨c, p1⟩
  · rw [e1] at h2
    exact h2
  · rw [e1] at h2
    have h2 : Go b n L (false, P, out, p) (endF b n P (out ++ c.2) p1) := h2
    rw [ef (hd_m hd (by decide))] at h2
    obtain ⟨l1, l2, l3⟩ := ln _ hp c p1 e1
    rw [bnd_r]
    exact loop 300 c p1 [] (out ++ c.2) l1 (by omega) (fun x hx => by cases hx) (List.append_nil _) h2
theorem eq_smr {one : Nat → Rs} {D : Nat} (n3 : n ≤ 300) (h1 : EqO b n L one D) (ln : LnR b n one) : ∀ P out p, p ≤ n → opsN P + D = 8 → HdL 5 P → (tK b n p = 27 → ¬ askA P = true) → RsO (smr b n one p) (fun f x => Go b n L (false, P, out, p) (.inl (f, x, []))) (fun c p' => SmP b n L (false, P, out, p) P out c p') := by
  intro P out p hp ho hd hN
  have hp1 := eq_prd n3 h1 ln
  have loop : ∀ m c p1 Q out', p1 ≤ n → 300 ≤ tS b n p1 + m → (∀ x, x ∈ Q → 6 ≤ x ∧ x ≤ 9) → out' ++ mp Q = out ++ c.2 → Go b n L (false, P, out, p) (.inr (true, Q ++ P, out', p1)) → isMul (tK b n p1) = false → RsO (lpO b n isAdd cB (prd b n one) m c p1) (fun f x => Go b n L (false, P, out, p) (.inl (f, x, []))) (fun c p' => SmP b n L (false, P, out, p) P out c p') := by
    intro m
    induction m with
    | zero =>
      intro c p1 Q out' hp1 h3 hQ ho' hg hm
      have k42 := k_42 n3 (show 300 ≤ tS b n p1 by omega)
      exact ⟨Q, out', hQ, ho', hg, hm, by rw [k42]; decide⟩
    | succ m ih =>
      intro c p1 Q out' hpn h3 hQ ho' hg hm
      rw [lpO]
      by_cases ck : isAdd (tK b n p1) = true
      · rw [if_pos ck]
        have ck' := of_decide_eq_true ck
        obtain ⟨tk1, tk2⟩ := tk_st hpn (show tK b n p1 ≠ 42 by omega)
        obtain ⟨o, eo⟩ : ∃ o, o = tK b n p1 - 26 := ⟨_, rfl⟩
        have o89 : o = 6 ∨ o = 7 := by omega
        have rk6 : rk o = 5 ∧ opq o = 0 ∧ o ≠ 41 := by
          rcases o89 with e | e <;> rw [e] <;> decide
        have hb : btwF b n (Q ++ P) p1 = o := by
          unfold btwF
          rcases ck' with e | e
          · rw [if_pos e, eo, e]
          · rw [if_neg (by omega), if_pos e, eo, e]
        have hs : stl (if rk o = 4 then 5 else rk o) (Q ++ P) out' = (P, out ++ c.2) := by
          rw [rk6.1, if_neg (by decide), st_app Q _ (fun x hx => by
            have := hQ x hx
            have e4 : x = 6 ∨ x = 7 ∨ x = 8 ∨ x = 9 := by omega
            rcases e4 with e | e | e | e <;> rw [e] <;> decide), ho', st_stop hd]
        have g1 := go_t hg (go_o (L := L) hb (by omega) hs)
        have op : opsN (o :: P) + D = 8 := by
          show opq o + opsN P + D = 8
          omega
        have h2 := hp1 (o :: P) (out ++ c.2) (tX b n p1) tk1 op (hd_o (by omega) rk6.2.2) (fun _ => nask (by omega) (by omega))
        rcases e1 : prd b n one (tX b n p1) with ⟨f, x⟩ | ⟨c2, p2⟩
        · rw [e1] at h2
          exact go_t g1 h2
        · rw [e1] at h2
          obtain ⟨Q2, out2, q1, q2, q3, q4⟩ : PdP b n L (false, o :: P, out ++ c.2, tX b n p1) (o :: P) (out ++ c.2) c2 p2 := h2
          obtain ⟨l1, l2, l3⟩ := ln_prd ln _ tk1 c2 p2 e1
          rw [bnd_r]
          refine ih (cB (tK b n p1) c c2) p2 (Q2 ++ [o]) out2 l1 (by omega) (fun x hx => ?_) ?_ ?_ q4
          · rcases List.mem_append.mp hx with e | e
            · have := q1 x e
              omega
            · rcases List.mem_cons.mp e with e | e
              · omega
              · cases e
          · rw [mp_a, ← List.append_assoc, q2]
            unfold cB
            rw [eo]
            simp only [List.append_assoc]
            rfl
          · rw [← ap_c]
            exact go_t g1 q3
      · rw [if_neg ck]
        have cf : isAdd (tK b n p1) = false := by
          cases cc : isAdd (tK b n p1)
          · rfl
          · exact absurd cc ck
        exact ⟨Q, out', hQ, ho', hg, hm, cf⟩
  unfold smr
  have h2 := hp1 P out p hp ho (hd_m hd (by decide)) hN
  rcases e1 : prd b n one p with ⟨f, x⟩ | ⟨c, p1⟩
  · rw [e1] at h2
    exact h2
  · rw [e1] at h2
    obtain ⟨Q2, out2, q1, q2, q3, q4⟩ : PdP b n L (false, P, out, p) P out c p1 := h2
    obtain ⟨l1, l2, l3⟩ := ln_prd ln _ hp c p1 e1
    rw [bnd_r]
    exact loop 300 c p1 Q2 out2 l1 (by omega) (fun x hx => by have := q1 x hx; omega) q2 q3 q4
theorem rk_ari {x : Nat} (h : 6 ≤ x ∧ x ≤ 9) : 4 < rk x := by
  have e4 : x = 6 ∨ x = 7 ∨ x = 8 ∨ x = 9 := by omega
  rcases e4 with e | e | e | e <;> rw [e] <;> decide
theorem askA_i {P : List Nat} (h : askA P = true) : opW P = 42 ∧ HdL 4 P ∧ isCm P = false := by
  cases P with
  | nil => cases h
  | cons x P =>
    have h' : (decide (opW (x :: P) = 42) && (decide (40 ≤ x) || decide (1 ≤ rk x ∧ rk x ≤ 3))) = true := h
    rw [Bool.and_eq_true, Bool.or_eq_true, decide_eq_true_eq, decide_eq_true_eq, decide_eq_true_eq] at h'
    obtain ⟨h1, h2⟩ := h'
    have r : rk x ≤ 3 := by
      rcases h2 with h2 | h2
      · rw [rk_0.mpr h2]
        omega
      · exact h2.2
    refine ⟨h1, fun y R e => ?_, ?_⟩
    · have ey : x = y := (List.cons.inj e).1
      rw [← ey]
      refine ⟨by omega, fun e41 => ?_⟩
      rw [opW, if_pos (by omega)] at h1
      omega
    · rw [isCm, if_neg (by omega)]
      exact decide_eq_false (by omega)
theorem askA_o {P : List Nat} {o : Nat} (h : opW P = 42) (h1 : 1 ≤ rk o ∧ rk o ≤ 3) : askA (o :: P) = true := by
  have e : opW (o :: P) = 42 := by
    rw [opW, if_neg (fun q => by rw [rk_0.mpr q] at h1; omega)]
    exact h
  show (decide (opW (o :: P) = 42) && (decide (40 ≤ o) || decide (1 ≤ rk o ∧ rk o ≤ 3))) = true
  rw [decide_eq_true e, decide_eq_true h1, Bool.or_true]
  rfl
def EqA (b : Nat → Nat) (n L : Nat) (ask : Nat → Rs) (D : Nat) : Prop := ∀ P out p, p ≤ n → opsN P + D = 8 → askA P = true → RsO (ask p) (fun f x => Go b n L (false, P, out, p) (.inl (f, x, []))) (fun c p' => AsP 3 b n L (false, P, out, p) P out c p')
theorem cm_v {k : Nat} (h : isCmp k = true) : 10 ≤ cmM k ∧ cmM k ≤ 15 := by
  have := of_decide_eq_true h
  have : k = 28 ∨ k = 29 ∨ k = 30 ∨ k = 31 ∨ k = 39 ∨ k = 40 := by omega
  rcases this with rfl | rfl | rfl | rfl | rfl | rfl <;> decide
theorem eq_ask {one nt : Nat → Rs} {D : Nat} (n3 : n ≤ 300) (h1 : EqO b n L one D) (ln : LnR b n one) (hn : ∀ P out p, p ≤ n → opsN P + D = 8 → askA P = true → tK b n p = 27 → RsO (nt p) (fun f x => Go b n L (false, P, out, p) (.inl (f, x, []))) (fun c p' => AsP 3 b n L (false, P, out, p) P out c p')) : EqA b n L (askS b n one nt) D := by
  intro P out p hp ho ha
  obtain ⟨a1, a2, a3⟩ := askA_i ha
  unfold askS
  by_cases c0 : tK b n p = 27
  · rw [if_pos c0]
    exact hn P out p hp ho ha c0
  · rw [if_neg c0]
    have hs1 := eq_smr n3 h1 ln P out p hp ho (hd_m a2 (by decide)) (fun q => absurd q c0)
    rcases e1 : smr b n one p with ⟨f, x⟩ | ⟨c, p1⟩
    · rw [e1] at hs1
      exact hs1
    · rw [e1] at hs1
      obtain ⟨Q1, out1, q1, q2, q3, q4, q5⟩ : SmP b n L (false, P, out, p) P out c p1 := hs1
      obtain ⟨l1, l2, l3⟩ := ln_smr ln _ hp c p1 e1
      have ow : opW (Q1 ++ P) = 42 := by
        rw [opW_a Q1 (fun x hx => by have := rk_ari (q1 x hx); omega)]
        exact a1
      have cm : isCm (Q1 ++ P) = false := by
        rw [isCm_a Q1 (fun x hx => rk_ari (q1 x hx))]
        exact a3
      have bt : btwF b n (Q1 ++ P) p1 = if isCmp (tK b n p1) = true then cmM (tK b n p1) else 0 := by
        rw [bt_ar q4 q5, if_neg (fun q => q ow), cm, if_pos ffN]
      rw [bnd_r]
      by_cases cc : isCmp (tK b n p1) = true
      · rw [if_pos cc] at bt ⊢
        have cc' := of_decide_eq_true cc
        obtain ⟨v1, v2⟩ := cm_v cc
        obtain ⟨tk1, tk2⟩ := tk_st l1 (show tK b n p1 ≠ 42 by omega)
        obtain ⟨o, eo⟩ : ∃ o, o = cmM (tK b n p1) := ⟨_, rfl⟩
        rw [← eo] at bt v1 v2
        obtain ⟨r1, r2, r3, r4⟩ := rk_ar (o := o) (by omega)
        have rk4 : rk o = 4 := r4.mpr ⟨v1, v2⟩
        have hs : stl (if rk o = 4 then 5 else rk o) (Q1 ++ P) out1 = (P, out ++ c.2) := by
          rw [if_pos rk4, st_app Q1 _ (fun x hx => by have := rk_ari (q1 x hx); omega), q2, st_stop (hd_m a2 (by decide))]
        have g1 := go_t q3 (go_o (L := L) bt (by omega) hs)
        have op : opsN (o :: P) + D = 8 := by
          show opq o + opsN P + D = 8
          omega
        have hs2 := eq_smr n3 h1 ln (o :: P) (out ++ c.2) (tX b n p1) tk1 op (hd_o (by omega) (by omega)) (fun _ => nask (by omega) (by omega))
        rcases e2 : smr b n one (tX b n p1) with ⟨f, x⟩ | ⟨c2, p2⟩
        · rw [e2] at hs2
          exact go_t g1 hs2
        · rw [e2] at hs2
          obtain ⟨Q2, out2, u1, u2, u3, u4, u5⟩ : SmP b n L (false, o :: P, out ++ c.2, tX b n p1) (o :: P) (out ++ c.2) c2 p2 := hs2
          rw [bnd_r]
          refine ⟨Q2 ++ [o], out2, fun x hx => ?_, ?_, ?_, ?_, u4, u5, fun h => by omega, fun h => by omega⟩
          · rcases List.mem_append.mp hx with e | e
            · have := rk_ari (u1 x e)
              omega
            · rcases List.mem_cons.mp e with e | e
              · rw [e]
                omega
              · cases e
          · rw [mp_a, ← List.append_assoc, u2]
            unfold cC
            rw [eo]
            simp only [List.append_assoc]
            rfl
          · rw [← ap_c]
            exact go_t g1 u3
          · rw [← ap_c, isCm_a Q2 (fun x hx => rk_ari (u1 x hx)), isCm, if_neg (by omega)]
            exact decide_eq_true rk4
      · rw [if_neg cc] at bt ⊢
        have pr : prtF b n (Q1 ++ P) p1 = 0 := by
          unfold prtF
          rw [ow, if_neg (by decide), if_pos rfl, if_neg (fun q => by rw [cm] at q; exact ffN q.2)]
        exact go_t q3 (go_f bt pr (by rw [ow]; decide))
end Equiv
