/-! the pile comes to what the descent comes to: all of it -/
section Equiv2
variable {b : Nat → Nat} {n L : Nat}
theorem eq_bth {ask : Nat → Rs} {D : Nat} (n3 : n ≤ 300) (h1 : EqA b n L ask D) (ln : LnR b n ask) : ∀ P out p, p ≤ n → opsN P + D = 8 → askA P = true → HdL 2 P → RsO (bth b n ask p) (fun f x => Go b n L (false, P, out, p) (.inl (f, x, []))) (fun c p' => AsP 2 b n L (false, P, out, p) P out c p') := by
  intro P out p hp ho ha hd
  obtain ⟨a1, a2, a3⟩ := askA_i ha
  have loop : ∀ m c p1 Q out', p1 ≤ n → 300 ≤ tS b n p1 + m → (∀ x, x ∈ Q → 2 ≤ rk x) → out' ++ mp Q = out ++ c.2 → Go b n L (false, P, out, p) (.inr (true, Q ++ P, out', p1)) → isCm (Q ++ P) = true → isMul (tK b n p1) = false → isAdd (tK b n p1) = false → (tK b n p1 ≠ 26 ∨ 2 = 2) → RsO (lpO b n (fun k => decide (k = 26)) cJ (ask) m c p1) (fun f x => Go b n L (false, P, out, p) (.inl (f, x, []))) (fun c p' => AsP 2 b n L (false, P, out, p) P out c p') := by
    intro m
    induction m with
    | zero =>
      intro c p1 Q out' hp1 h3 hQ ho' hg hc hm hA h26
      have k42 := k_42 n3 (show 300 ≤ tS b n p1 by omega)
      exact ⟨Q, out', hQ, ho', hg, hc, hm, hA, fun _ => by omega, fun _ => by omega⟩
    | succ m ih =>
      intro c p1 Q out' hp1 h3 hQ ho' hg hc hm hA h26
      rw [lpO]
      by_cases ck : decide (tK b n p1 = 26) = true
      · rw [if_pos ck]
        have ck' := of_decide_eq_true ck
        obtain ⟨tk1, tk2⟩ := tk_st hp1 (show tK b n p1 ≠ 42 by omega)
        have ow : opW (Q ++ P) = 42 := by
          rw [opW_a Q (fun x hx => by have := hQ x hx; omega)]
          exact a1
        have hb : btwF b n (Q ++ P) p1 = 21 := by
          rw [bt_ar hm hA, if_neg (fun q => q ow), if_neg (fun q => q hc)]
          rw [if_pos ck']
        have hs : stl (if rk 21 = 4 then 5 else rk 21) (Q ++ P) out' = (P, out ++ c.2) := by
          rw [show (if rk 21 = 4 then 5 else rk 21) = 2 by decide, st_app Q _ hQ, ho', st_stop hd]
        have g1 := go_t hg (go_o (L := L) hb (by decide) hs)
        have op : opsN (21 :: P) + D = 8 := by
          show opq 21 + opsN P + D = 8
          rw [show opq 21 = 0 by decide]
          omega
        have h2 := h1 (21 :: P) (out ++ c.2) (tX b n p1) tk1 op (askA_o a1 (by decide))
        rcases e1 : (ask) (tX b n p1) with ⟨f, x⟩ | ⟨c2, p2⟩
        · rw [e1] at h2
          exact go_t g1 h2
        · rw [e1] at h2
          obtain ⟨Q2, out2, q1, q2, q3, q4, q5, q6, q7, q8⟩ : AsP 3 b n L (false, 21 :: P, out ++ c.2, tX b n p1) (21 :: P) (out ++ c.2) c2 p2 := h2
          obtain ⟨l1, l2, l3⟩ := ln _ tk1 c2 p2 e1
          rw [bnd_r, ck']
          refine ih (cJ 26 c c2) p2 (Q2 ++ [21]) out2 l1 (by omega) (fun x hx => ?_) ?_ ?_ ?_ q5 q6 (Or.inr rfl)
          · rcases List.mem_append.mp hx with e | e
            · have := q1 x e
              omega
            · rcases List.mem_cons.mp e with e | e
              · rw [e]
                decide
              · cases e
          · rw [mp_a, ← List.append_assoc, q2]
            unfold cJ
            simp only [List.append_assoc]
            rfl
          · rw [← ap_c]
            exact go_t g1 q3
          · rw [← ap_c]
            exact q4
      · rw [if_neg ck]
        have cn : tK b n p1 ≠ 26 := fun q => ck (decide_eq_true q)
        exact ⟨Q, out', hQ, ho', hg, hc, hm, hA, fun _ => by omega, fun _ => by omega⟩
  unfold bth
  have h2 := h1 P out p hp ho ha
  rcases e1 : (ask) p with ⟨f, x⟩ | ⟨c, p1⟩
  · rw [e1] at h2
    exact h2
  · rw [e1] at h2
    obtain ⟨Q2, out2, q1, q2, q3, q4, q5, q6, q7, q8⟩ : AsP 3 b n L (false, P, out, p) P out c p1 := h2
    obtain ⟨l1, l2, l3⟩ := ln _ hp c p1 e1
    rw [bnd_r]
    exact loop 300 c p1 Q2 out2 l1 (by omega) (fun x hx => by have := q1 x hx; omega) q2 q3 q4 q5 q6 (Or.inr rfl)
theorem eq_eth {ask : Nat → Rs} {D : Nat} (n3 : n ≤ 300) (h1 : EqA b n L ask D) (ln : LnR b n ask) : ∀ P out p, p ≤ n → opsN P + D = 8 → askA P = true → HdL 1 P → RsO (eth b n ask p) (fun f x => Go b n L (false, P, out, p) (.inl (f, x, []))) (fun c p' => AsP 1 b n L (false, P, out, p) P out c p') := by
  intro P out p hp ho ha hd
  obtain ⟨a1, a2, a3⟩ := askA_i ha
  have hB := eq_bth n3 h1 ln
  have loop : ∀ m c p1 Q out', p1 ≤ n → 300 ≤ tS b n p1 + m → (∀ x, x ∈ Q → 1 ≤ rk x) → out' ++ mp Q = out ++ c.2 → Go b n L (false, P, out, p) (.inr (true, Q ++ P, out', p1)) → isCm (Q ++ P) = true → isMul (tK b n p1) = false → isAdd (tK b n p1) = false → (tK b n p1 ≠ 26 ∨ 1 = 2) → RsO (lpO b n (fun k => decide (k = 25)) cJ (bth b n ask) m c p1) (fun f x => Go b n L (false, P, out, p) (.inl (f, x, []))) (fun c p' => AsP 1 b n L (false, P, out, p) P out c p') := by
    intro m
    induction m with
    | zero =>
      intro c p1 Q out' hp1 h3 hQ ho' hg hc hm hA h26
      have k42 := k_42 n3 (show 300 ≤ tS b n p1 by omega)
      exact ⟨Q, out', hQ, ho', hg, hc, hm, hA, fun _ => by omega, fun _ => by omega⟩
    | succ m ih =>
      intro c p1 Q out' hp1 h3 hQ ho' hg hc hm hA h26
      rw [lpO]
      by_cases ck : decide (tK b n p1 = 25) = true
      · rw [if_pos ck]
        have ck' := of_decide_eq_true ck
        obtain ⟨tk1, tk2⟩ := tk_st hp1 (show tK b n p1 ≠ 42 by omega)
        have ow : opW (Q ++ P) = 42 := by
          rw [opW_a Q (fun x hx => by have := hQ x hx; omega)]
          exact a1
        have hb : btwF b n (Q ++ P) p1 = 22 := by
          rw [bt_ar hm hA, if_neg (fun q => q ow), if_neg (fun q => q hc)]
          rw [if_neg (show ¬ tK b n p1 = 26 by omega), if_pos ck']
        have hs : stl (if rk 22 = 4 then 5 else rk 22) (Q ++ P) out' = (P, out ++ c.2) := by
          rw [show (if rk 22 = 4 then 5 else rk 22) = 1 by decide, st_app Q _ hQ, ho', st_stop hd]
        have g1 := go_t hg (go_o (L := L) hb (by decide) hs)
        have op : opsN (22 :: P) + D = 8 := by
          show opq 22 + opsN P + D = 8
          rw [show opq 22 = 0 by decide]
          omega
        have h2 := hB (22 :: P) (out ++ c.2) (tX b n p1) tk1 op (askA_o a1 (by decide)) (hd_o (by decide) (by decide))
        rcases e1 : (bth b n ask) (tX b n p1) with ⟨f, x⟩ | ⟨c2, p2⟩
        · rw [e1] at h2
          exact go_t g1 h2
        · rw [e1] at h2
          obtain ⟨Q2, out2, q1, q2, q3, q4, q5, q6, q7, q8⟩ : AsP 2 b n L (false, 22 :: P, out ++ c.2, tX b n p1) (22 :: P) (out ++ c.2) c2 p2 := h2
          obtain ⟨l1, l2, l3⟩ := (ln_bth ln) _ tk1 c2 p2 e1
          rw [bnd_r, ck']
          refine ih (cJ 25 c c2) p2 (Q2 ++ [22]) out2 l1 (by omega) (fun x hx => ?_) ?_ ?_ ?_ q5 q6 (Or.inl (q7 (by decide)))
          · rcases List.mem_append.mp hx with e | e
            · have := q1 x e
              omega
            · rcases List.mem_cons.mp e with e | e
              · rw [e]
                decide
              · cases e
          · rw [mp_a, ← List.append_assoc, q2]
            unfold cJ
            simp only [List.append_assoc]
            rfl
          · rw [← ap_c]
            exact go_t g1 q3
          · rw [← ap_c]
            exact q4
      · rw [if_neg ck]
        have cn : tK b n p1 ≠ 25 := fun q => ck (decide_eq_true q)
        exact ⟨Q, out', hQ, ho', hg, hc, hm, hA, fun _ => by omega, fun _ => by omega⟩
  unfold eth
  have h2 := hB P out p hp ho ha (hd_m hd (by decide))
  rcases e1 : (bth b n ask) p with ⟨f, x⟩ | ⟨c, p1⟩
  · rw [e1] at h2
    exact h2
  · rw [e1] at h2
    obtain ⟨Q2, out2, q1, q2, q3, q4, q5, q6, q7, q8⟩ : AsP 2 b n L (false, P, out, p) P out c p1 := h2
    obtain ⟨l1, l2, l3⟩ := (ln_bth ln) _ hp c p1 e1
    rw [bnd_r]
    exact loop 300 c p1 Q2 out2 l1 (by omega) (fun x hx => by have := q1 x hx; omega) q2 q3 q4 q5 q6 (Or.inl (q7 (by decide)))
theorem bg_o {P : List Nat} {out : List (Nat × Nat)} {p o : Nat} (h : (tK b n p = 36 ∧ o = 40) ∨ (tK b n p = 33 ∧ o = 5) ∨ (tK b n p = 19 ∧ o = 41) ∨ (tK b n p = 20 ∧ o = 2) ∨ (tK b n p = 21 ∧ o = 42)) : begF b n L P out p = opF b n o P out p := by
  unfold begF
  rw [if_neg (by omega), if_neg (by omega)]
  rcases h with ⟨h, e⟩ | ⟨h, e⟩ | ⟨h, e⟩ | ⟨h, e⟩ | ⟨h, e⟩
  · rw [if_pos h, e]
  · rw [if_neg (by omega), if_pos h, e]
  · rw [if_neg (by omega), if_neg (by omega), if_pos h, e]
  · rw [if_neg (by omega), if_neg (by omega), if_neg (by omega), if_pos h, e]
  · rw [if_neg (by omega), if_neg (by omega), if_neg (by omega), if_neg (by omega), if_pos h, e]
/-- behind a sum of what is open -/
theorem sm_w {P : List Nat} {out : List (Nat × Nat)} {s : Rst} {c : Cd} {p w : Nat} (h : SmP b n L s (w :: P) out c p) (hw : 40 ≤ w) (h2 : w ≠ 42) : ∃ Q out', Go b n L s (.inr (true, Q, out', p)) ∧ btwF b n Q p = 0 ∧ opW Q = w ∧ stl 1 Q out' = (w :: P, out ++ c.2) := by
  obtain ⟨Q, out', q1, q2, q3, q4, q5⟩ := h
  have ow : opW (Q ++ w :: P) = w := by
    rw [opW_a Q (fun x hx => by have := rk_ari (q1 x hx); omega), opW, if_pos hw]
  have r0 : rk w = 0 := rk_0.mpr hw
  refine ⟨Q ++ w :: P, out', q3, ?_, ow, ?_⟩
  · rw [bt_ar q4 q5, if_pos (by rw [ow]; exact h2)]
  · rw [st_app Q _ (fun x hx => by have := rk_ari (q1 x hx); omega), q2, stl, if_neg (by omega)]
theorem eq_op {one ask : Nat → Rs} {D : Nat} (n3 : n ≤ 300) (h1 : EqO b n L one D) (h2 : EqA b n L ask D) (l1 : LnR b n one) (l2 : LnR b n ask) : ∀ P out p, p ≤ n → opsN P + (D + 1) = 8 → (tK b n p = 36 ∨ tK b n p = 33 ∨ tK b n p = 19 ∨ tK b n p = 20 ∨ tK b n p = 21) → RsO (opnS b n one ask p) (fun f x => Go b n L (false, P, out, p) (.inl (f, x, []))) (fun c p' => Go b n L (false, P, out, p) (endF b n P (out ++ c.2) p')) := by
  intro P out p hp ho hK
  obtain ⟨tk1, tk2⟩ := tk_st hp (show tK b n p ≠ 42 by omega)
  have hop : ∀ o, ((tK b n p = 36 ∧ o = 40) ∨ (tK b n p = 33 ∧ o = 5) ∨ (tK b n p = 19 ∧ o = 41) ∨ (tK b n p = 20 ∧ o = 2) ∨ (tK b n p = 21 ∧ o = 42)) → Go b n L (false, P, out, p) (.inr (false, o :: P, out, tX b n p)) := fun o h => by
    refine go_b ?_
    rw [bg_o h]
    exact if_neg (by omega)
  have hops : ∀ o, opq o = 1 → opsN (o :: P) + D = 8 := fun o h => by
    show opq o + opsN P + D = 8
    omega
  unfold opnS
  by_cases c1 : tK b n p = 36
  · rw [if_pos c1]
    have g0 := hop 40 (Or.inl ⟨c1, rfl⟩)
    have hs := eq_smr n3 h1 l1 (40 :: P) out (tX b n p) tk1 (hops 40 (by decide)) (hd_o (by decide) (by decide)) (fun _ => nask (by decide) (by decide))
    rcases e1 : smr b n one (tX b n p) with ⟨f, x⟩ | ⟨c, p1⟩
    · rw [e1] at hs
      exact go_t g0 hs
    · rw [e1] at hs
      obtain ⟨Q, out', q1, q2, q3, q4⟩ := sm_w (show SmP b n L (false, 40 :: P, out, tX b n p) (40 :: P) out c p1 from hs) (by decide) (by decide)
      rw [bnd_r]
      unfold xpt
      by_cases c2 : tK b n p1 = 37
      · rw [if_pos c2]
        have pr : prtF b n Q p1 = 1 := by
          unfold prtF
          rw [if_pos q3, if_pos c2]
        have g2 := go_s (L := L) q2 pr q4
        rw [q3, if_neg (by decide), List.append_nil] at g2
        exact go_t g0 (go_t q1 g2)
      · rw [if_neg c2]
        have pr : prtF b n Q p1 = 0 := by
          unfold prtF
          rw [if_pos q3, if_neg c2]
        exact go_t g0 (go_t q1 (go_f q2 pr (by rw [q3]; decide)))
  · rw [if_neg c1]
    by_cases c2 : tK b n p = 21
    · rw [if_pos c2]
      have g0 := hop 42 (by omega)
      have ask42 : askA (42 :: P) = true := by
        show (decide (opW (42 :: P) = 42) && (decide (40 ≤ 42) || decide (1 ≤ rk 42 ∧ rk 42 ≤ 3))) = true
        rw [decide_eq_true (show opW (42 :: P) = 42 by rw [opW, if_pos (by decide)])]
        rfl
      have hs := eq_eth n3 h2 l2 (42 :: P) out (tX b n p) tk1 (hops 42 (by decide)) ask42 (hd_o (by decide) (by decide))
      unfold chc
      rcases e1 : eth b n ask (tX b n p) with ⟨f, x⟩ | ⟨c, p1⟩
      · rw [e1] at hs
        exact go_t g0 hs
      · rw [e1] at hs
        obtain ⟨Q, out', q1, q2, q3, q4, q5, q6, q7, q8⟩ : AsP 1 b n L (false, 42 :: P, out, tX b n p) (42 :: P) out c p1 := hs
        have n26 := q7 (by decide)
        have n25 := q8 (by decide)
        obtain ⟨l11, -, -⟩ := ln_eth l2 _ tk1 c p1 e1
        have ow : opW (Q ++ 42 :: P) = 42 := by
          rw [opW_a Q q1, opW, if_pos (by decide)]
        have bt : btwF b n (Q ++ 42 :: P) p1 = 0 := by
          rw [bt_ar q5 q6, if_neg (fun q => q ow), if_neg (fun q => q q4), if_neg n26, if_neg n25]
        have st : stl 1 (Q ++ 42 :: P) out' = (42 :: P, out ++ c.2) := by
          rw [st_app Q _ q1, q2, stl, if_neg (by decide)]
        rw [bnd_r]
        unfold xpt
        by_cases c3 : tK b n p1 = 22
        · rw [if_pos c3, bnd_r]
          obtain ⟨tk3, tk4⟩ := tk_st l11 (show tK b n p1 ≠ 42 by omega)
          have pr : prtF b n (Q ++ 42 :: P) p1 = 43 := by
            unfold prtF
            rw [ow, if_neg (by decide), if_pos rfl, if_pos ⟨c3, q4⟩]
          have g1 := go_t g0 (go_t q3 (go_p (L := L) bt pr (by decide) (by decide) st))
          have hs2 := eq_smr n3 h1 l1 (43 :: P) (out ++ c.2) (tX b n p1) tk3 (hops 43 (by decide)) (hd_o (by decide) (by decide)) (fun _ => nask (by decide) (by decide))
          rcases e2 : smr b n one (tX b n p1) with ⟨f, x⟩ | ⟨a, p3⟩
          · rw [e2] at hs2
            exact go_t g1 hs2
          · rw [e2] at hs2
            obtain ⟨Q2, out2, u1, u2, u3, u4⟩ := sm_w (show SmP b n L (false, 43 :: P, out ++ c.2, tX b n p1) (43 :: P) (out ++ c.2) a p3 from hs2) (by decide) (by decide)
            obtain ⟨l13, -, -⟩ := ln_smr l1 _ tk3 a p3 e2
            rw [bnd_r]
            by_cases c4 : tK b n p3 = 23
            · rw [if_pos c4, bnd_r]
              obtain ⟨tk5, tk6⟩ := tk_st l13 (show tK b n p3 ≠ 42 by omega)
              have pr2 : prtF b n Q2 p3 = 44 := by
                unfold prtF
                rw [u3, if_neg (by decide), if_neg (by decide), if_pos rfl, if_pos c4]
              have g2 := go_t g1 (go_t u1 (go_p (L := L) u2 pr2 (by decide) (by decide) u4))
              have hs3 := eq_smr n3 h1 l1 (44 :: P) (out ++ c.2 ++ a.2) (tX b n p3) tk5 (hops 44 (by decide)) (hd_o (by decide) (by decide)) (fun _ => nask (by decide) (by decide))
              rcases e3 : smr b n one (tX b n p3) with ⟨f, x⟩ | ⟨e, p5⟩
              · rw [e3] at hs3
                exact go_t g2 hs3
              · rw [e3] at hs3
                obtain ⟨Q3, out3, v1, v2, v3, v4⟩ := sm_w (show SmP b n L (false, 44 :: P, out ++ c.2 ++ a.2, tX b n p3) (44 :: P) (out ++ c.2 ++ a.2) e p5 from hs3) (by decide) (by decide)
                rw [bnd_r]
                by_cases c5 : tK b n p5 = 24
                · rw [if_pos c5, bnd_r]
                  have pr3 : prtF b n Q3 p5 = 1 := by
                    unfold prtF
                    rw [v3, if_neg (by decide), if_neg (by decide), if_neg (by decide), if_pos rfl, if_pos c5]
                  have g3 := go_s (L := L) v2 pr3 v4
                  rw [v3, if_pos rfl] at g3
                  have g4 := go_t g2 (go_t v1 g3)
                  have ec : out ++ c.2 ++ a.2 ++ e.2 ++ [(3, 0)] = out ++ (cIf c a e).2 := by
                    unfold cIf
                    simp only [List.append_assoc]
                  rw [ec] at g4
                  exact g4
                · rw [if_neg c5]
                  have pr3 : prtF b n Q3 p5 = 0 := by
                    unfold prtF
                    rw [v3, if_neg (by decide), if_neg (by decide), if_neg (by decide), if_pos rfl, if_neg c5]
                  exact go_t g2 (go_t v1 (go_f v2 pr3 (by rw [v3]; decide)))
            · rw [if_neg c4]
              have pr2 : prtF b n Q2 p3 = 0 := by
                unfold prtF
                rw [u3, if_neg (by decide), if_neg (by decide), if_pos rfl, if_neg c4]
              exact go_t g1 (go_t u1 (go_f u2 pr2 (by rw [u3]; decide)))
        · rw [if_neg c3]
          have pr : prtF b n (Q ++ 42 :: P) p1 = 0 := by
            unfold prtF
            rw [ow, if_neg (by decide), if_pos rfl, if_neg (fun q => c3 q.1)]
          exact go_t g0 (go_t q3 (go_f bt pr (by rw [ow]; decide)))
    · rw [if_neg c2]
      by_cases c3 : tK b n p = 19
      · rw [if_pos c3]
        have g0 := hop 41 (by omega)
        have hs := h1 (41 :: P) out (tX b n p) tk1 (hops 41 (by decide)) (fun _ => nask (by decide) (by decide))
        rcases e1 : one (tX b n p) with ⟨f, x⟩ | ⟨a, p1⟩
        · rw [e1] at hs
          exact go_t g0 hs
        · rw [e1] at hs
          have hs : Go b n L (false, 41 :: P, out, tX b n p) (endF b n (41 :: P) (out ++ a.2) p1) := hs
          obtain ⟨l11, -, -⟩ := l1 _ tk1 a p1 e1
          have ee : endF b n (41 :: P) (out ++ a.2) p1 = if tK b n p1 = 18 then .inr (false, 4 :: P, out ++ a.2, tX b n p1) else .inl (1, tS b n p1, []) := by
            have es : stl 7 (41 :: P) (out ++ a.2) = (41 :: P, out ++ a.2) := by
              rw [stl, if_neg (by decide)]
            unfold endF
            rw [es]
            exact if_pos rfl
          rw [ee] at hs
          rw [bnd_r]
          unfold xpt
          by_cases c4 : tK b n p1 = 18
          · rw [if_pos c4] at hs ⊢
            rw [bnd_r]
            obtain ⟨tk3, tk4⟩ := tk_st l11 (show tK b n p1 ≠ 42 by omega)
            have hs2 := h1 (4 :: P) (out ++ a.2) (tX b n p1) tk3 (hops 4 (by decide)) (fun _ => nask (by decide) (by decide))
            rcases e2 : one (tX b n p1) with ⟨f, x⟩ | ⟨c, p3⟩
            · rw [e2] at hs2
              exact go_t g0 (go_t hs hs2)
            · rw [e2] at hs2
              have hs2 : Go b n L (false, 4 :: P, out ++ a.2, tX b n p1) (endF b n (4 :: P) (out ++ a.2 ++ c.2) p3) := hs2
              have e4 : endF b n (4 :: P) (out ++ a.2 ++ c.2) p3 = endF b n P (out ++ (cMn a c).2) p3 := by
                have es : stl 7 (4 :: P) (out ++ a.2 ++ c.2) = stl 7 P (out ++ (cMn a c).2) := by
                  rw [stl, if_pos (by decide)]
                  unfold cMn
                  simp only [List.append_assoc]
                unfold endF
                rw [es]
              rw [e4] at hs2
              exact go_t g0 (go_t hs hs2)
          · rw [if_neg c4] at hs ⊢
            exact go_t g0 hs
      · rw [if_neg c3]
        obtain ⟨w, ew⟩ : ∃ w, w = if tK b n p = 33 then 5 else 2 := ⟨_, rfl⟩
        have hw : (tK b n p = 33 ∧ w = 5) ∨ (tK b n p = 20 ∧ w = 2) := by
          by_cases c4 : tK b n p = 33
          · rw [if_pos c4] at ew
            exact Or.inl ⟨c4, ew⟩
          · rw [if_neg c4] at ew
            exact Or.inr ⟨by omega, ew⟩
        have rw7 : 7 ≤ rk w ∧ opq w = 1 := by
          rcases hw with h | h <;> rw [h.2] <;> decide
        have g0 := hop w (by omega)
        have hs := h1 (w :: P) out (tX b n p) tk1 (hops w rw7.2) (fun _ => nask (by omega) (by omega))
        rcases e1 : one (tX b n p) with ⟨f, x⟩ | ⟨a, p1⟩
        · rw [e1] at hs
          exact go_t g0 hs
        · rw [e1] at hs
          have hs : Go b n L (false, w :: P, out, tX b n p) (endF b n (w :: P) (out ++ a.2) p1) := hs
          have e4 : endF b n (w :: P) (out ++ a.2) p1 = endF b n P (out ++ (cU (tK b n p) a).2) p1 := by
            have es : stl 7 (w :: P) (out ++ a.2) = stl 7 P (out ++ (cU (tK b n p) a).2) := by
              rw [stl, if_pos rw7.1]
              unfold cU
              rcases hw with h | h
              · rw [if_pos h.1, h.2]
                simp only [List.append_assoc]
              · rw [if_neg (by omega), h.2]
                simp only [List.append_assoc]
            unfold endF
            rw [es]
          rw [e4] at hs
          exact go_t g0 hs
theorem eq_one {opn : Nat → Rs} {D : Nat} (ho : ∀ P out p, p ≤ n → opsN P + D = 8 → (tK b n p = 36 ∨ tK b n p = 33 ∨ tK b n p = 19 ∨ tK b n p = 20 ∨ tK b n p = 21) → RsO (opn p) (fun f x => Go b n L (false, P, out, p) (.inl (f, x, []))) (fun c p' => Go b n L (false, P, out, p) (endF b n P (out ++ c.2) p'))) : EqO b n L (oneS b n L opn) D := by
  intro P out p hp hd hn
  unfold oneS
  by_cases c1 : tK b n p = 41
  · rw [if_pos c1]
    by_cases c2 : tV b n p ≤ 9999
    · rw [if_pos c2]
      exact go_b (by
        unfold begF
        rw [if_pos c1, if_pos c2])
    · rw [if_neg c2]
      exact go_b (by
        unfold begF
        rw [if_pos c1, if_neg c2])
  · rw [if_neg c1]
    by_cases c2 : 7 ≤ tK b n p ∧ tK b n p ≤ 15
    · rw [if_pos c2]
      by_cases c3 : (L = 0 ∧ (tK b n p = 14 ∨ tK b n p = 15)) ∨ (L = 1 ∧ tK b n p = 13)
      · rw [if_pos c3]
        exact go_b (by
          unfold begF
          rw [if_neg c1, if_pos c2, if_pos c3])
      · rw [if_neg c3]
        exact go_b (by
          unfold begF
          rw [if_neg c1, if_pos c2, if_neg c3])
    · rw [if_neg c2]
      by_cases c3 : tK b n p = 36 ∨ tK b n p = 33 ∨ tK b n p = 19 ∨ tK b n p = 20 ∨ tK b n p = 21
      · rw [if_pos c3]
        exact ho P out p hp hd c3
      · rw [if_neg c3]
        exact go_b (by
          unfold begF
          rw [if_neg c1, if_neg c2, if_neg (by omega), if_neg (by omega), if_neg (by omega), if_neg (by omega), if_neg (by omega), if_neg (fun q => hn q.1 q.2)])
theorem eq_0 {opn : Nat → Rs} (h : opn = dpF b n) : ∀ P out p, p ≤ n → opsN P + 0 = 8 → (tK b n p = 36 ∨ tK b n p = 33 ∨ tK b n p = 19 ∨ tK b n p = 20 ∨ tK b n p = 21) → RsO (opn p) (fun f x => Go b n L (false, P, out, p) (.inl (f, x, []))) (fun c p' => Go b n L (false, P, out, p) (endF b n P (out ++ c.2) p')) := by
  intro P out p hp ho hK
  rw [h]
  have hop : ∀ o, ((tK b n p = 36 ∧ o = 40) ∨ (tK b n p = 33 ∧ o = 5) ∨ (tK b n p = 19 ∧ o = 41) ∨ (tK b n p = 20 ∧ o = 2) ∨ (tK b n p = 21 ∧ o = 42)) → Go b n L (false, P, out, p) (.inl (3, tS b n p, [])) := fun o h => by
    refine go_b ?_
    rw [bg_o h]
    exact if_pos (by omega)
  show Go b n L (false, P, out, p) (.inl (3, tS b n p, []))
  rcases hK with h | h | h | h | h
  · exact hop 40 (by omega)
  · exact hop 5 (by omega)
  · exact hop 41 (by omega)
  · exact hop 2 (by omega)
  · exact hop 42 (by omega)
theorem bg_n {P : List Nat} {out : List (Nat × Nat)} {p : Nat} (h : tK b n p = 27) (ha : askA P = true) : begF b n L P out p = opF b n 20 P out p := by
  unfold begF
  rw [if_neg (by omega), if_neg (by omega), if_neg (by omega), if_neg (by omega), if_neg (by omega), if_neg (by omega), if_neg (by omega), if_pos ⟨h, ha⟩]
theorem eq_lv (n3 : n ≤ 300) : ∀ D, EqO b n L (lv1 b n L D).1 D ∧ EqA b n L (lv1 b n L D).2 D
  | 0 => by
    have h1 : EqO b n L (lv1 b n L 0).1 0 := eq_one (eq_0 rfl)
    refine ⟨h1, eq_ask n3 h1 (ln_lv 0).1 (fun P out p hp ho ha hK => ?_)⟩
    show Go b n L (false, P, out, p) (.inl (3, tS b n p, []))
    refine go_b ?_
    rw [bg_n hK ha]
    exact if_pos (by omega)
  | D + 1 => by
    obtain ⟨i1, i2⟩ := eq_lv n3 D
    have h1 : EqO b n L (lv1 b n L (D + 1)).1 (D + 1) := eq_one (eq_op n3 i1 i2 (ln_lv D).1 (ln_lv D).2)
    refine ⟨h1, eq_ask n3 h1 (ln_lv (D + 1)).1 (fun P out p hp ho ha hK => ?_)⟩
    obtain ⟨tk1, tk2⟩ := tk_st hp (show tK b n p ≠ 42 by omega)
    obtain ⟨a1, a2, a3⟩ := askA_i ha
    have g0 : Go b n L (false, P, out, p) (.inr (false, 20 :: P, out, tX b n p)) := go_b (by
      rw [bg_n hK ha]
      exact if_neg (by omega))
    have hs := i2 (20 :: P) out (tX b n p) tk1 (by
      show opq 20 + opsN P + D = 8
      rw [show opq 20 = 1 by decide]
      omega) (askA_o a1 (by decide))
    show RsO (bnd ((lv1 b n L D).2 (tX b n p)) (fun c p1 => .inr (cNt c, p1))) _ _
    rcases e1 : (lv1 b n L D).2 (tX b n p) with ⟨f, x⟩ | ⟨c, p1⟩
    · rw [e1] at hs
      exact go_t g0 hs
    · rw [e1] at hs
      obtain ⟨Q2, out2, q1, q2, q3, q4, q5, q6, q7, q8⟩ : AsP 3 b n L (false, 20 :: P, out, tX b n p) (20 :: P) out c p1 := hs
      rw [bnd_r]
      refine ⟨Q2 ++ [20], out2, fun x hx => ?_, ?_, ?_, ?_, q5, q6, fun h => by omega, fun h => by omega⟩
      · rcases List.mem_append.mp hx with e | e
        · exact q1 x e
        · rcases List.mem_cons.mp e with e | e
          · rw [e]
            decide
          · cases e
      · rw [mp_a, ← List.append_assoc, q2]
        unfold cNt
        simp only [List.append_assoc]
        rfl
      · rw [← ap_c]
        exact go_t g0 q3
      · rw [← ap_c]
        exact q4
/-- a whole sum -/
theorem eq_sum (n3 : n ≤ 300) {out : List (Nat × Nat)} {p : Nat} (hp : p ≤ n) : RsO (smr b n (lv1 b n L 8).1 p) (fun f x => Go b n L (false, [], out, p) (.inl (f, x, []))) (fun c p' => Go b n L (false, [], out, p) (.inl (0, p', out ++ c.2))) := by
  have hs := eq_smr (b := b) (n := n) (L := L) (one := (lv1 b n L 8).1) (D := 8) n3 (eq_lv n3 8).1 (ln_lv (L := L) 8).1 [] out p hp rfl (fun y R e => by cases e) (fun _ h => by cases h)
  rcases e1 : smr b n (lv1 b n L 8).1 p with ⟨f, x⟩ | ⟨c, p1⟩
  · rw [e1] at hs
    exact hs
  · rw [e1] at hs
    obtain ⟨Q, out', q1, q2, q3, q4, q5⟩ : SmP b n L (false, [], out, p) [] out c p1 := hs
    have ow : opW (Q ++ []) = 0 := opW_a Q (fun x hx => by have := rk_ari (q1 x hx); omega)
    have bt : btwF b n (Q ++ []) p1 = 0 := by
      rw [bt_ar q4 q5, if_pos (by rw [ow]; decide)]
    have pr : prtF b n (Q ++ []) p1 = 0 := by
      unfold prtF
      rw [ow]
      rfl
    have e : stpR b n L (true, Q ++ [], out', p1) = .inl (0, p1, out ++ c.2) := by
      rw [stp_t, if_pos ⟨bt, pr⟩, if_pos ow, st_app Q _ (fun x hx => by have := rk_ari (q1 x hx); omega), q2]
      rfl
    refine go_t q3 ?_
    rw [← e]
    exact go_1
end Equiv2
