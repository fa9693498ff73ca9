/-! the calls that lay down: road, rumour, rooms, by, heard, pack, said -/
theorem bes_c {A A' : Nat → Nat} {h : Nat} (hk : ∀ k, k = 0 ∨ (40 ≤ k ∧ k < 64) → A' k = A k) (w0 : A 0 ≤ 12) : bes A' h = bes A h := by
  unfold bes
  rw [hk 0 (by omega)]
  exact bsN_c _ (fun j hj => hk _ (by omega))
theorem kpr_c {A A' : Nat → Nat} {r : Nat} (hk : ∀ h, h < 8 → A' (12 + h) = A (12 + h)) : kpr A' r = kpr A r := kpN_c _ (fun j hj => hk j hj)
theorem AtM_u {I : Nat → Nat → Int32} {c : Nat} {A : Nat → Nat} {k v : Nat} (m : AtM I c A) : AtM (uI I c k (nI v)) c (upA A k v) := by
  intro j hj
  by_cases e : j = k
  · rw [uI_e e, upA_e e]
  · rw [uI_n (Or.inr e), upA_n e]
    exact m j hj
theorem Wf1_c {A A' : Nat → Nat} (h : ∀ k, k < 12 → A' k = A k) (w : Wf1 A) : Wf1 A' := by
  unfold Wf1
  rw [h 0 (by decide), h 1 (by decide), h 2 (by decide), h 3 (by decide), h 4 (by decide), h 5 (by decide), h 6 (by decide), h 7 (by decide), h 8 (by decide), h 9 (by decide), h 10 (by decide), h 11 (by decide)]
  exact w
theorem Wf2_c {A A' : Nat → Nat} (h : ∀ k, k = 1 ∨ (12 ≤ k ∧ k < 40) ∨ (64 ≤ k ∧ k < 72) ∨ (1769 ≤ k ∧ k < 1799) → A' k = A k) (w : Wf2 A) : Wf2 A' := by
  obtain ⟨w1, w2, w3, w4, w5, w6, w7⟩ := w
  refine ⟨?_, ?_, ?_, ?_, ?_, ?_, ?_⟩
  · intro j hj; rw [h _ (by omega), h 1 (by omega)]; exact w1 j hj
  · intro j hj; rw [h _ (by omega)]; exact w2 j hj
  · intro j hj; rw [h _ (by omega)]; exact w3 j hj
  · intro j hj; rw [h _ (by omega)]; exact w4 j hj
  · intro j hj; rw [h _ (by omega)]; exact w5 j hj
  · intro j hj; rw [h _ (by omega)]; exact w6 j hj
  · intro j hj; rw [h _ (by omega)]; exact w7 j hj
theorem Wf3_c {A A' : Nat → Nat} (h : ∀ k, k = 0 ∨ (40 ≤ k ∧ k < 64) → A' k = A k) (w0 : A 0 ≤ 12) (w : Wf3 A) : Wf3 A' := by
  obtain ⟨w1, w2⟩ := w
  refine ⟨?_, ?_⟩
  · intro j hj
    rw [h 0 (by omega)] at hj
    rw [h _ (by omega), h _ (by omega)]
    exact w1 j hj
  · intro j i hi hj
    rw [h 0 (by omega)] at hj
    rw [h _ (by omega), h _ (by omega), h _ (by omega), h _ (by omega)]
    exact w2 j i hi hj
theorem Wf4_c {A A' : Nat → Nat} (h : ∀ k, k = 1 ∨ k = 5 ∨ k = 6 ∨ k = 7 ∨ (72 ≤ k ∧ k < 119) → A' k = A k) (v : Wf1 A) (w : Wf4 A) : Wf4 A' := by
  obtain ⟨w1, w2, w3⟩ := w
  obtain ⟨v0, v1, v2, v3, v4, v5, v6, v7, -⟩ := v
  refine ⟨?_, ?_, ?_⟩
  · intro j hj
    rw [h 5 (by omega)] at hj
    rw [h _ (by omega), h _ (by omega)]
    exact w1 j hj
  · intro j hj
    rw [h 6 (by omega)] at hj
    rw [h _ (by omega)]
    exact w2 j hj
  · intro j hj
    rw [h 7 (by omega)] at hj
    rw [h _ (by omega), h _ (by omega), h _ (by omega), h _ (by omega)]
    exact w3 j hj
theorem Wrow_c {A A' : Nat → Nat} {x x' : Nat} (h1 : A 1 ≤ A' 1) (h : ∀ k, k < 55 → A' (x' + k) = A (x + k)) (w : Wrow A x) : Wrow A' x' := by
  obtain ⟨w1, w2, w3, w4, w5, w6, w7, w8, w9⟩ := w
  have h0 : A' x' = A x := h 0 (by omega)
  refine ⟨?_, ?_, ?_, ?_, ?_, ?_, ?_, ?_, ?_⟩
  · rw [h0]; omega
  · rw [h _ (by omega)]; exact w2
  · rw [h _ (by omega)]; exact w3
  · rw [h _ (by omega)]; exact w4
  · rw [h _ (by omega)]; exact w5
  · intro j hj; rw [Nat.add_assoc, h _ (by omega), ← Nat.add_assoc, h0]; exact w6 j hj
  · intro j hj; rw [Nat.add_assoc, h _ (by omega), ← Nat.add_assoc]; exact w7 j hj
  · intro j hj; rw [Nat.add_assoc, h _ (by omega), ← Nat.add_assoc]; exact w8 j hj
  · intro j hj; rw [Nat.add_assoc, h _ (by omega), ← Nat.add_assoc]; exact w9 j hj
theorem Wf5_c {A A' : Nat → Nat} (h : ∀ k, k = 1 ∨ k = 4 ∨ (119 ≤ k ∧ k < 1769) → A' k = A k) (w4 : A 4 ≤ 30) (w : Wf5 A) : Wf5 A' := by
  intro j hj
  rw [h 4 (by omega)] at hj
  exact Wrow_c (by rw [h 1 (by omega)]; exact Nat.le_refl _) (fun k hk => h _ (by omega)) (w j hj)
theorem Wf5_r {A A' : Nat → Nat} (h1 : A 1 ≤ A' 1) (h : ∀ k, k = 4 ∨ (119 ≤ k ∧ k < 1769) → A' k = A k) (w4 : A 4 ≤ 30) (w : Wf5 A) : Wf5 A' := by
  intro j hj
  rw [h 4 (by omega)] at hj
  exact Wrow_c h1 (fun k hk => h _ (by omega)) (w j hj)
/-- one road more -/
theorem bes_add {A A' : Nat → Nat} {a b h : Nat} (e0 : A' 0 = A 0 + 1) (e1 : A' (40 + 2 * A 0) = a) (e2 : A' (40 + 2 * A 0 + 1) = b) (e : ∀ j, j < 2 * A 0 → A' (40 + j) = A (40 + j)) : bes A' h = bes A h ||| (if a = h then 2 ^ b else if b = h then 2 ^ a else 0) := by
  unfold bes
  rw [e0, bsN, bsN_c _ e, e1, e2]
theorem bs_bit {A : Nat → Nat} {h g : Nat} (hg : g ≠ h) : ∀ n, bsN A h n / 2 ^ g % 2 = 1 ↔ ∃ j, j < n ∧ ((A (40 + 2 * j) = h ∧ A (40 + 2 * j + 1) = g) ∨ (A (40 + 2 * j + 1) = h ∧ A (40 + 2 * j) = g))
  | 0 => by
    constructor
    · intro h0
      simp [bsN] at h0
    · rintro ⟨j, hj, -⟩
      omega
  | n + 1 => by
    have ih := bs_bit (A := A) hg n
    have key : ∀ (x y : Nat), (x ||| y) / 2 ^ g % 2 = 1 ↔ x / 2 ^ g % 2 = 1 ∨ y / 2 ^ g % 2 = 1 := by
      intro x y
      have := Nat.testBit_or x y g
      rw [Nat.testBit_eq_decide_div_mod_eq, Nat.testBit_eq_decide_div_mod_eq, Nat.testBit_eq_decide_div_mod_eq] at this
      rw [← decide_eq_true_iff (p := (x ||| y) / 2 ^ g % 2 = 1), this, Bool.or_eq_true, decide_eq_true_iff, decide_eq_true_iff]
    have pw : ∀ k, 2 ^ k / 2 ^ g % 2 = 1 ↔ k = g := by
      intro k
      have := Nat.testBit_two_pow (n := k) (m := g)
      rw [Nat.testBit_eq_decide_div_mod_eq] at this
      exact decide_eq_decide.mp this
    rw [bsN, key, ih]
    constructor
    · rintro (⟨j, hj, h1⟩ | h1)
      · exact ⟨j, by omega, h1⟩
      · refine ⟨n, by omega, ?_⟩
        by_cases c1 : A (40 + 2 * n) = h
        · rw [if_pos c1, pw] at h1
          exact Or.inl ⟨c1, h1⟩
        · rw [if_neg c1] at h1
          by_cases c2 : A (40 + 2 * n + 1) = h
          · rw [if_pos c2, pw] at h1
            exact Or.inr ⟨c2, h1⟩
          · rw [if_neg c2] at h1
            simp at h1
    · rintro ⟨j, hj, h1⟩
      by_cases hn : j = n
      · subst hn
        right
        rcases h1 with ⟨c1, c2⟩ | ⟨c1, c2⟩
        · rw [if_pos c1, pw]
          exact c2
        · rw [if_neg (by omega), if_pos c1, pw]
          exact c2
      · exact Or.inl ⟨j, by omega, h1⟩
section Upd
variable {TX : (Nat → Nat → Int32) → Nat → Prop} {sc : Sc} {d : Nat}
theorem jp_rooms {x y : Int32} : JtP TX P2 sc (d + 3) 110 179 [some (.ref 0), some (.int x), some (.int y)] [some (.ref 89), some (.int x), some (.int y)] := by
  intro A B M w _
  have w' := w
  obtain ⟨wA, wB, wt⟩ := w
  by_cases hx : inR x 8
  · by_cases hy : inR y 5
    · obtain ⟨h, hh, rfl⟩ := hx
      obtain ⟨v, hv, rfl⟩ := hy
      have w0 : A 0 ≤ 12 := wA.1.1
      have w1 : A 1 ≤ 4 := wA.1.2.1
      obtain ⟨A', eA⟩ : ∃ X, X = upA A (32 + h) v := ⟨_, rfl⟩
      have fA : ∀ k, k ≠ 32 + h → A' k = A k := fun k hk => by rw [eA]; exact upA_n hk
      have f1 : A' 1 = A 1 := fA 1 (by omega)
      have f2 : A' 2 = A 2 := fA 2 (by omega)
      have W2 : Wf2 A' := by
        obtain ⟨v1, v2, v3, v4, v5, v6, v7⟩ := wA.2.1
        refine ⟨?_, ?_, ?_, ?_, ?_, ?_, ?_⟩
        · intro j hj; rw [fA _ (by omega), f1]; exact v1 j hj
        · intro j hj; rw [fA _ (by omega)]; exact v2 j hj
        · intro j hj
          by_cases e : j = h
          · rw [eA, upA_e (by omega)]; omega
          · rw [fA _ (by omega)]; exact v3 j hj
        · intro j hj; rw [fA _ (by omega)]; exact v4 j hj
        · intro j hj; rw [fA _ (by omega)]; exact v5 j hj
        · intro j hj; rw [fA _ (by omega)]; exact v6 j hj
        · intro j hj; rw [fA _ (by omega)]; exact v7 j hj
      refine ⟨nI 1, A', B, Or.inr rfl, ⟨⟨(Wf1_c (fun k hk => fA k (by omega)) wA.1), W2, (Wf3_c (fun k hk => fA k (by omega)) wA.1.1 wA.2.2.1), (Wf4_c (fun k hk => fA k (by omega)) wA.1 wA.2.2.2.1), (Wf5_c (fun k hk => fA k (by omega)) wA.1.2.2.2.2.1 wA.2.2.2.2)⟩, wB, by omega⟩, by omega, ?_, ?_⟩
      · intro I J T hC _
        obtain ⟨t1, t2, s1, s2, n1, n2⟩ := hC
        obtain ⟨I1, eI⟩ : ∃ X, X = uI I 2 h (nI v) := ⟨_, rfl⟩
        have fI : ∀ c k, c ≠ 2 ∨ k ≠ h → I1 c k = I c k := fun c k hk => by rw [eI]; exact uI_n hk
        refine ⟨I1, fun c k hc => fI c k (by omega), ⟨⟨?_, (fun h hh => by rw [fI _ _ (by omega), fA _ (by omega)]; exact tw_income t1 hh), (fun h hh => by rw [fI _ _ (by omega), bes_c (fun k hk => fA k (by omega)) w0]; exact tw_beside t1 hh), (fun r hr => by rw [f1] at hr; rw [fI _ _ (by omega), fA _ (by omega)]; exact tw_truth t1 hr), (fun r hr => by rw [f1] at hr; rw [fI _ _ (by omega), fA _ (by omega)]; exact tw_purse t1 hr), (fun r hr => by rw [f1] at hr; rw [fI _ _ (by omega), fA _ (by omega)]; exact tw_told t1 hr), (fun r hr => by rw [f1] at hr; rw [fI _ _ (by omega), kpr_c (fun h hh => fA _ (by omega))]; exact tw_keepers t1 hr), (fun h hh => by rw [fI _ _ (by omega), fA _ (by omega)]; exact tw_pages t1 hh), (by rw [fI _ _ (by omega), fA _ (by omega)]; exact tw_written t1), (by rw [fI _ _ (by omega), fA _ (by omega)]; exact tw_roads t1), (by rw [fI _ _ (by omega), fA _ (by omega)]; exact tw_rumours t1), (by rw [fI _ _ (by omega), fA _ (by omega)]; exact tw_day t1), (by rw [fI _ _ (by omega), fA _ (by omega)]; exact tw_x t1), (by rw [fI _ _ (by omega), fA _ (by omega)]; exact tw_paid t1), (by rw [fI _ _ (by omega), fA _ (by omega)]; exact tw_texts t1), (by rw [fI _ _ (by omega), fA _ (by omega)]; exact tw_ruling t1)⟩, Twn_c t2 (fun c k hc => fI c k (by omega)) (fun _ _ _ _ => rfl) ⟨wB.1.1, wB.1.2.1⟩, Stw_c s1 (fun c k hc => fI c k (by omega)) (fA 4 (by omega)) (fun k h1 h2 => fA k (by omega)) wA, Stw_c s2 (fun c k hc => fI c k (by omega)) rfl (fun _ _ _ => rfl) wB, Nts_c n1 (fun c k hc => fI c k (by omega)) (fun k hk => fA k (by omega)) wA.1, Nts_c n2 (fun c k hc => fI c k (by omega)) (fun _ _ => rfl) wB.1⟩, fun Q => ?_⟩
        · intro g hg
          by_cases e : g = h
          · rw [eI, uI_e e, eA, upA_e (by omega)]
          · rw [fI _ _ (by omega), fA _ (by omega)]
            exact tw_rooms t1 hg
        · rw [eI]
          simp (disch := first | assumption | omega | decide) only [x110_0, x110_1, x110_2, x110_3, x110_4, x110_5, x110_6, x110_7, x110_8, x110_9, x110_10, x110_11, x110_12, x110_13, x110_14, x110_15, x110_16, x110_17, sp_houC_t, sp_isWithin, ↓in_t, ↓reduceIte, Option.toList, List.nil_append, List.cons_append, nI_add, pk_mul, n_and, n_or, n_xor, nI_leI, nI_ltI, nI_eq, n_z, uI_s, uI_n, bI_n0, bI_n1, bT, bF, if_true, if_false, not_true, not_false_eq_true, pk_div, pk_rem, Nat.reduceEqDiff, Nat.reduceLeDiff, Nat.reduceLT, Nat.reduceAdd, Nat.reduceMul, Nat.reduceSub, Nat.not_lt_zero, Nat.zero_le, reduceCtorEq, ite_self, n_rem, and_self, and_true, true_and, and_false, false_and]
      · intro I J T hM _
        refine ⟨uI I 90 (32 + h) (nI v), J, ⟨fun c k hc => by simp (disch := omega) only [uI_n], fun k hk => by simp (disch := omega) only [uI_n]⟩, ⟨by rw [eA]; exact AtM_u hM.1, AtM_c hM.2.1 (fun k => uI_n (by omega)), (uI_n (by omega)).trans hM.2.2⟩, fun Q => ?_⟩
        simp (disch := first | assumption | omega | decide) only [x179_0, x179_1, x179_2, x179_3, x179_4, x179_5, x179_6, x179_7, x179_8, x179_9, x179_10, x179_11, x179_12, x179_13, x179_14, x179_15, x179_16, x179_17, x179_18, sp_houM_t, sp_isIn, ↓in_t, ↓reduceIte, Option.toList, List.nil_append, List.cons_append, nI_add, pk_mul, n_and, n_or, n_xor, nI_leI, nI_ltI, nI_eq, n_z, uI_s, uI_n, bI_n0, bI_n1, bT, bF, if_true, if_false, not_true, not_false_eq_true, pk_div, pk_rem, Nat.reduceEqDiff, Nat.reduceLeDiff, Nat.reduceLT, Nat.reduceAdd, Nat.reduceMul, Nat.reduceSub, Nat.not_lt_zero, Nat.zero_le, reduceCtorEq, ite_self, n_rem, and_self, and_true, true_and, and_false, false_and]
    · obtain ⟨h, hh, rfl⟩ := hx
      refine jtRP w' (nI 0) (Or.inl rfl) ?_ ?_ <;> intro I J T Q hI
      · simp (disch := first | assumption | omega | decide) only [x110_0, x110_1, x110_2, x110_3, x110_4, x110_5, x110_6, x110_7, x110_8, x110_9, x110_10, x110_11, x110_12, x110_13, x110_14, x110_15, x110_16, x110_17, sp_houC_t, sp_isWithin, ↓in_f hy, ↓reduceIte, Option.toList, List.nil_append, List.cons_append, nI_add, pk_mul, n_and, n_or, n_xor, nI_leI, nI_ltI, nI_eq, n_z, uI_s, uI_n, bI_n0, bI_n1, bT, bF, if_true, if_false, not_true, not_false_eq_true, pk_div, pk_rem, Nat.reduceEqDiff, Nat.reduceLeDiff, Nat.reduceLT, Nat.reduceAdd, Nat.reduceMul, Nat.reduceSub, Nat.not_lt_zero, Nat.zero_le, reduceCtorEq, ite_self, n_rem, and_self, and_true, true_and, and_false, false_and]
      · simp (disch := first | assumption | omega | decide) only [x179_0, x179_1, x179_2, x179_3, x179_4, x179_5, x179_6, x179_7, x179_8, x179_9, x179_10, x179_11, x179_12, x179_13, x179_14, x179_15, x179_16, x179_17, x179_18, sp_houM_t, sp_isIn, ↓in_f hy, ↓reduceIte, Option.toList, List.nil_append, List.cons_append, nI_add, pk_mul, n_and, n_or, n_xor, nI_leI, nI_ltI, nI_eq, n_z, uI_s, uI_n, bI_n0, bI_n1, bT, bF, if_true, if_false, not_true, not_false_eq_true, pk_div, pk_rem, Nat.reduceEqDiff, Nat.reduceLeDiff, Nat.reduceLT, Nat.reduceAdd, Nat.reduceMul, Nat.reduceSub, Nat.not_lt_zero, Nat.zero_le, reduceCtorEq, ite_self, n_rem, and_self, and_true, true_and, and_false, false_and]
  · refine jtRP w' (nI 0) (Or.inl rfl) ?_ ?_ <;> intro I J T Q hI
    · simp (disch := first | assumption | omega | decide) only [x110_0, x110_1, x110_2, x110_3, x110_4, x110_5, x110_6, x110_7, x110_8, x110_9, x110_10, x110_11, x110_12, x110_13, x110_14, x110_15, x110_16, x110_17, sp_houC_f, ↓reduceIte, Option.toList, List.nil_append, List.cons_append, nI_add, pk_mul, n_and, n_or, n_xor, nI_leI, nI_ltI, nI_eq, n_z, uI_s, uI_n, bI_n0, bI_n1, bT, bF, if_true, if_false, not_true, not_false_eq_true, pk_div, pk_rem, Nat.reduceEqDiff, Nat.reduceLeDiff, Nat.reduceLT, Nat.reduceAdd, Nat.reduceMul, Nat.reduceSub, Nat.not_lt_zero, Nat.zero_le, reduceCtorEq, ite_self, n_rem, and_self, and_true, true_and, and_false, false_and]
    · simp (disch := first | assumption | omega | decide) only [x179_0, x179_1, x179_2, x179_3, x179_4, x179_5, x179_6, x179_7, x179_8, x179_9, x179_10, x179_11, x179_12, x179_13, x179_14, x179_15, x179_16, x179_17, x179_18, sp_houM_f, ↓reduceIte, Option.toList, List.nil_append, List.cons_append, nI_add, pk_mul, n_and, n_or, n_xor, nI_leI, nI_ltI, nI_eq, n_z, uI_s, uI_n, bI_n0, bI_n1, bT, bF, if_true, if_false, not_true, not_false_eq_true, pk_div, pk_rem, Nat.reduceEqDiff, Nat.reduceLeDiff, Nat.reduceLT, Nat.reduceAdd, Nat.reduceMul, Nat.reduceSub, Nat.not_lt_zero, Nat.zero_le, reduceCtorEq, ite_self, n_rem, and_self, and_true, true_and, and_false, false_and]
theorem jt_rooms {x y : Int32} : Jt TX sc (d + 3) 110 179 [some (.ref 0), some (.int x), some (.int y)] [some (.ref 89), some (.int x), some (.int y)] := JtP_f jp_rooms
theorem jp_road {x y : Int32} : JtP TX P1 sc (d + 3) 108 177 [some (.ref 0), some (.int x), some (.int y)] [some (.ref 89), some (.int x), some (.int y)] := by
  intro A B M w _
  have w' := w
  obtain ⟨wA, wB, wt⟩ := w
  have w0 : A 0 ≤ 12 := wA.1.1
  have w1 : A 1 ≤ 4 := wA.1.2.1
  by_cases hx : inR x 8
  · obtain ⟨a, ha, rfl⟩ := hx
    by_cases hy : inR y 8
    · obtain ⟨b, hb, rfl⟩ := hy
      have la : bes A a < 256 := bes_lt wA
      have lb : bes A b < 256 := bes_lt wA
      by_cases hab : a = b
      · refine jtRP w' (-1) (Or.inl rfl) ?_ ?_ <;> intro I J T Q hI
        · simp (disch := first | assumption | omega | decide) only [x108_0, x108_1, x108_2, x108_3, x108_4, x108_5, x108_6, x108_7, x108_8, x108_9, x108_10, x108_11, x108_12, x108_13, x108_14, x108_15, x108_16, x108_17, x108_18, x108_19, x108_20, x108_21, x108_22, x108_23, x108_24, x108_25, x108_26, x108_27, x108_28, x108_29, x108_30, x108_31, x108_32, x108_33, x108_34, x108_35, x108_36, x108_37, x108_38, x108_39, x108_40, x108_41, x108_42, x108_43, x108_44, x108_45, x108_46, x108_47, x108_48, x108_49, x108_50, x108_51, x108_52, x108_53, x108_54, x108_55, x108_56, x108_57, x108_58, x108_59, x108_60, x108_61, x108_62, x108_63, sp_houC_t, ↓reduceIte, Option.toList, List.nil_append, List.cons_append, nI_add, pk_mul, n_and, n_or, n_xor, nI_leI, nI_ltI, nI_eq, n_z, uI_s, uI_n, bI_n0, bI_n1, bT, bF, if_true, if_false, not_true, not_false_eq_true, pk_div, pk_rem, Nat.reduceEqDiff, Nat.reduceLeDiff, Nat.reduceLT, Nat.reduceAdd, Nat.reduceMul, Nat.reduceSub, Nat.not_lt_zero, Nat.zero_le, reduceCtorEq, ite_self, n_rem, and_self, and_true, true_and, and_false, false_and, hab]
        · simp (disch := first | assumption | omega | decide) only [x177_0, x177_1, x177_2, x177_3, x177_4, x177_5, x177_6, x177_7, x177_8, x177_9, x177_10, x177_11, x177_12, x177_13, x177_14, x177_15, x177_16, x177_17, x177_18, x177_19, x177_20, x177_21, x177_22, x177_23, x177_24, x177_25, x177_26, x177_27, x177_28, x177_29, x177_30, x177_31, x177_32, x177_33, x177_34, x177_35, x177_36, x177_37, x177_38, x177_39, x177_40, x177_41, x177_42, x177_43, x177_44, x177_45, x177_46, x177_47, x177_48, x177_49, x177_50, x177_51, x177_52, x177_53, x177_54, x177_55, x177_56, x177_57, x177_58, x177_59, x177_60, x177_61, x177_62, x177_63, sp_houM_t, ↓reduceIte, Option.toList, List.nil_append, List.cons_append, nI_add, pk_mul, n_and, n_or, n_xor, nI_leI, nI_ltI, nI_eq, n_z, uI_s, uI_n, bI_n0, bI_n1, bT, bF, if_true, if_false, not_true, not_false_eq_true, pk_div, pk_rem, Nat.reduceEqDiff, Nat.reduceLeDiff, Nat.reduceLT, Nat.reduceAdd, Nat.reduceMul, Nat.reduceSub, Nat.not_lt_zero, Nat.zero_le, reduceCtorEq, ite_self, n_rem, and_self, and_true, true_and, and_false, false_and, hab]
      · by_cases hbit : bes A a / 2 ^ b % 2 = 1
        · refine jtRP w' (-1) (Or.inl rfl) ?_ ?_ <;> intro I J T Q hI
          · simp (disch := first | assumption | omega | decide) only [x108_0, x108_1, x108_2, x108_3, x108_4, x108_5, x108_6, x108_7, x108_8, x108_9, x108_10, x108_11, x108_12, x108_13, x108_14, x108_15, x108_16, x108_17, x108_18, x108_19, x108_20, x108_21, x108_22, x108_23, x108_24, x108_25, x108_26, x108_27, x108_28, x108_29, x108_30, x108_31, x108_32, x108_33, x108_34, x108_35, x108_36, x108_37, x108_38, x108_39, x108_40, x108_41, x108_42, x108_43, x108_44, x108_45, x108_46, x108_47, x108_48, x108_49, x108_50, x108_51, x108_52, x108_53, x108_54, x108_55, x108_56, x108_57, x108_58, x108_59, x108_60, x108_61, x108_62, x108_63, sp_houC_t, ↓reduceIte, Option.toList, List.nil_append, List.cons_append, nI_add, pk_mul, n_and, n_or, n_xor, nI_leI, nI_ltI, nI_eq, n_z, uI_s, uI_n, bI_n0, bI_n1, bT, bF, if_true, if_false, not_true, not_false_eq_true, pk_div, pk_rem, Nat.reduceEqDiff, Nat.reduceLeDiff, Nat.reduceLT, Nat.reduceAdd, Nat.reduceMul, Nat.reduceSub, Nat.not_lt_zero, Nat.zero_le, reduceCtorEq, ite_self, n_rem, and_self, and_true, true_and, and_false, false_and, hab, tw_beside hI.1 ha, n_bit, hbit, tw_roads hI.1]
          · simp (disch := first | assumption | omega | decide) only [x177_0, x177_1, x177_2, x177_3, x177_4, x177_5, x177_6, x177_7, x177_8, x177_9, x177_10, x177_11, x177_12, x177_13, x177_14, x177_15, x177_16, x177_17, x177_18, x177_19, x177_20, x177_21, x177_22, x177_23, x177_24, x177_25, x177_26, x177_27, x177_28, x177_29, x177_30, x177_31, x177_32, x177_33, x177_34, x177_35, x177_36, x177_37, x177_38, x177_39, x177_40, x177_41, x177_42, x177_43, x177_44, x177_45, x177_46, x177_47, x177_48, x177_49, x177_50, x177_51, x177_52, x177_53, x177_54, x177_55, x177_56, x177_57, x177_58, x177_59, x177_60, x177_61, x177_62, x177_63, sp_houM_t, ↓reduceIte, Option.toList, List.nil_append, List.cons_append, nI_add, pk_mul, n_and, n_or, n_xor, nI_leI, nI_ltI, nI_eq, n_z, uI_s, uI_n, bI_n0, bI_n1, bT, bF, if_true, if_false, not_true, not_false_eq_true, pk_div, pk_rem, Nat.reduceEqDiff, Nat.reduceLeDiff, Nat.reduceLT, Nat.reduceAdd, Nat.reduceMul, Nat.reduceSub, Nat.not_lt_zero, Nat.zero_le, reduceCtorEq, ite_self, n_rem, and_self, and_true, true_and, and_false, false_and, hab, sp_besM ha wA hI.1, sp_has, bI_t hbit]
        · by_cases h12 : A 0 = 12
          · refine jtRP w' (-1) (Or.inl rfl) ?_ ?_ <;> intro I J T Q hI
            · simp (disch := first | assumption | omega | decide) only [x108_0, x108_1, x108_2, x108_3, x108_4, x108_5, x108_6, x108_7, x108_8, x108_9, x108_10, x108_11, x108_12, x108_13, x108_14, x108_15, x108_16, x108_17, x108_18, x108_19, x108_20, x108_21, x108_22, x108_23, x108_24, x108_25, x108_26, x108_27, x108_28, x108_29, x108_30, x108_31, x108_32, x108_33, x108_34, x108_35, x108_36, x108_37, x108_38, x108_39, x108_40, x108_41, x108_42, x108_43, x108_44, x108_45, x108_46, x108_47, x108_48, x108_49, x108_50, x108_51, x108_52, x108_53, x108_54, x108_55, x108_56, x108_57, x108_58, x108_59, x108_60, x108_61, x108_62, x108_63, sp_houC_t, ↓reduceIte, Option.toList, List.nil_append, List.cons_append, nI_add, pk_mul, n_and, n_or, n_xor, nI_leI, nI_ltI, nI_eq, n_z, uI_s, uI_n, bI_n0, bI_n1, bT, bF, if_true, if_false, not_true, not_false_eq_true, pk_div, pk_rem, Nat.reduceEqDiff, Nat.reduceLeDiff, Nat.reduceLT, Nat.reduceAdd, Nat.reduceMul, Nat.reduceSub, Nat.not_lt_zero, Nat.zero_le, reduceCtorEq, ite_self, n_rem, and_self, and_true, true_and, and_false, false_and, hab, tw_roads hI.1, h12]
            · simp (disch := first | assumption | omega | decide) only [x177_0, x177_1, x177_2, x177_3, x177_4, x177_5, x177_6, x177_7, x177_8, x177_9, x177_10, x177_11, x177_12, x177_13, x177_14, x177_15, x177_16, x177_17, x177_18, x177_19, x177_20, x177_21, x177_22, x177_23, x177_24, x177_25, x177_26, x177_27, x177_28, x177_29, x177_30, x177_31, x177_32, x177_33, x177_34, x177_35, x177_36, x177_37, x177_38, x177_39, x177_40, x177_41, x177_42, x177_43, x177_44, x177_45, x177_46, x177_47, x177_48, x177_49, x177_50, x177_51, x177_52, x177_53, x177_54, x177_55, x177_56, x177_57, x177_58, x177_59, x177_60, x177_61, x177_62, x177_63, sp_houM_t, ↓reduceIte, Option.toList, List.nil_append, List.cons_append, nI_add, pk_mul, n_and, n_or, n_xor, nI_leI, nI_ltI, nI_eq, n_z, uI_s, uI_n, bI_n0, bI_n1, bT, bF, if_true, if_false, not_true, not_false_eq_true, pk_div, pk_rem, Nat.reduceEqDiff, Nat.reduceLeDiff, Nat.reduceLT, Nat.reduceAdd, Nat.reduceMul, Nat.reduceSub, Nat.not_lt_zero, Nat.zero_le, reduceCtorEq, ite_self, n_rem, and_self, and_true, true_and, and_false, false_and, hab, sp_besM ha wA hI.1, sp_has, bI_f hbit, hI.1 0 (by decide), h12]
          · obtain ⟨A', eA⟩ : ∃ X, X = upA (upA (upA A (40 + 2 * A 0) a) (40 + 2 * A 0 + 1) b) 0 (A 0 + 1) := ⟨_, rfl⟩
            have fA : ∀ k, (k ≠ 40 + 2 * A 0 ∧ k ≠ 40 + 2 * A 0 + 1 ∧ k ≠ 0) → A' k = A k := fun k ⟨h1, h2, h3⟩ => by rw [eA, upA_n h3, upA_n h2, upA_n h1]
            have e0 : A' 0 = A 0 + 1 := by rw [eA, upA_s]
            have e1 : A' (40 + 2 * A 0) = a := by rw [eA, upA_n (by omega), upA_n (by omega), upA_s]
            have e2 : A' (40 + 2 * A 0 + 1) = b := by rw [eA, upA_n (by omega), upA_s]
            have f1 : A' 1 = A 1 := fA 1 (by omega)
            have f2 : A' 2 = A 2 := fA 2 (by omega)
            have fb : ∀ h, bes A' h = bes A h ||| (if a = h then 2 ^ b else if b = h then 2 ^ a else 0) := fun h => bes_add e0 e1 e2 (fun j hj => fA _ (by omega))
            have h12' : ¬ 12 ≤ A 0 := by omega
            have W3 : Wf3 A' := by
              refine ⟨?_, ?_⟩
              · intro j hj
                by_cases e : j = A 0
                · subst e
                  rw [e1, e2]
                  exact ⟨ha, hb, hab⟩
                · rw [fA _ (by omega), fA _ (by omega)]
                  exact wA.2.2.1.1 j (by omega)
              · intro j i hi hj
                by_cases e : j = A 0
                · subst e
                  rw [e1, e2, fA _ (by omega), fA _ (by omega)]
                  have nb := mt (bs_bit (A := A) (show b ≠ a by omega) (A 0)).mpr hbit
                  exact ⟨fun h => nb ⟨i, hi, Or.inl h⟩, fun h => nb ⟨i, hi, Or.inr ⟨h.2, h.1⟩⟩⟩
                · rw [fA _ (by omega), fA _ (by omega), fA _ (by omega), fA _ (by omega)]
                  exact wA.2.2.1.2 j i hi (by omega)
            have W1 : Wf1 A' := by
              unfold Wf1
              rw [e0, fA 1 (by omega), fA 2 (by omega), fA 3 (by omega), fA 4 (by omega), fA 5 (by omega), fA 6 (by omega), fA 7 (by omega), fA 8 (by omega), fA 9 (by omega), fA 10 (by omega), fA 11 (by omega)]
              exact ⟨by omega, wA.1.2⟩
            refine ⟨nI (A 0), A', B, Or.inr ⟨_, by omega, rfl⟩, ⟨⟨W1, (Wf2_c (fun k hk => fA k (by omega)) wA.2.1), W3, (Wf4_c (fun k hk => fA k (by omega)) wA.1 wA.2.2.2.1), (Wf5_c (fun k hk => fA k (by omega)) wA.1.2.2.2.2.1 wA.2.2.2.2)⟩, wB, by omega⟩, by omega, ?_, ?_⟩
            · intro I J T hC _
              obtain ⟨t1, t2, s1, s2, n1, n2⟩ := hC
              obtain ⟨I1, eI⟩ : ∃ X, X = uI (uI (uI I 4 a (nI (bes A a ||| 2 ^ b))) 4 b (nI (bes A b ||| 2 ^ a))) 1 9 (nI (A 0 + 1)) := ⟨_, rfl⟩
              have fI : ∀ c k, (c ≠ 4 ∨ (k ≠ a ∧ k ≠ b)) ∧ (c ≠ 1 ∨ k ≠ 9) → I1 c k = I c k := fun c k hk => by rw [eI, uI_n (by omega), uI_n (by omega), uI_n (by omega)]
              refine ⟨I1, fun c k hc => fI c k (by omega), ⟨⟨(fun h hh => by rw [fI _ _ (by omega), fA _ (by omega)]; exact tw_rooms t1 hh), (fun h hh => by rw [fI _ _ (by omega), fA _ (by omega)]; exact tw_income t1 hh), ?_, (fun r hr => by rw [f1] at hr; rw [fI _ _ (by omega), fA _ (by omega)]; exact tw_truth t1 hr), (fun r hr => by rw [f1] at hr; rw [fI _ _ (by omega), fA _ (by omega)]; exact tw_purse t1 hr), (fun r hr => by rw [f1] at hr; rw [fI _ _ (by omega), fA _ (by omega)]; exact tw_told t1 hr), (fun r hr => by rw [f1] at hr; rw [fI _ _ (by omega), kpr_c (fun h hh => fA _ (by omega))]; exact tw_keepers t1 hr), (fun h hh => by rw [fI _ _ (by omega), fA _ (by omega)]; exact tw_pages t1 hh), (by rw [fI _ _ (by omega), fA _ (by omega)]; exact tw_written t1), ?_, (by rw [fI _ _ (by omega), fA _ (by omega)]; exact tw_rumours t1), (by rw [fI _ _ (by omega), fA _ (by omega)]; exact tw_day t1), (by rw [fI _ _ (by omega), fA _ (by omega)]; exact tw_x t1), (by rw [fI _ _ (by omega), fA _ (by omega)]; exact tw_paid t1), (by rw [fI _ _ (by omega), fA _ (by omega)]; exact tw_texts t1), (by rw [fI _ _ (by omega), fA _ (by omega)]; exact tw_ruling t1)⟩, Twn_c t2 (fun c k hc => fI c k (by omega)) (fun _ _ _ _ => rfl) ⟨wB.1.1, wB.1.2.1⟩, Stw_c s1 (fun c k hc => fI c k (by omega)) (fA 4 (by omega)) (fun k h1 h2 => fA k (by omega)) wA, Stw_c s2 (fun c k hc => fI c k (by omega)) rfl (fun _ _ _ => rfl) wB, Nts_c n1 (fun c k hc => fI c k (by omega)) (fun k hk => fA k (by omega)) wA.1, Nts_c n2 (fun c k hc => fI c k (by omega)) (fun _ _ => rfl) wB.1⟩, fun Q => ?_⟩
              · intro g hg
                rw [fb g]
                by_cases g1 : a = g
                · subst g1
                  rw [if_pos rfl, eI, uI_n (by omega), uI_n (by omega), uI_s]
                · by_cases g2 : b = g
                  · subst g2
                    rw [if_neg g1, if_pos rfl, eI, uI_n (by omega), uI_s]
                  · rw [if_neg g1, if_neg g2, Nat.or_zero, fI _ _ (by omega)]
                    exact tw_beside t1 hg
              · rw [eI, uI_s, e0]
              · rw [eI]
                simp (disch := first | assumption | omega | decide) only [x108_0, x108_1, x108_2, x108_3, x108_4, x108_5, x108_6, x108_7, x108_8, x108_9, x108_10, x108_11, x108_12, x108_13, x108_14, x108_15, x108_16, x108_17, x108_18, x108_19, x108_20, x108_21, x108_22, x108_23, x108_24, x108_25, x108_26, x108_27, x108_28, x108_29, x108_30, x108_31, x108_32, x108_33, x108_34, x108_35, x108_36, x108_37, x108_38, x108_39, x108_40, x108_41, x108_42, x108_43, x108_44, x108_45, x108_46, x108_47, x108_48, x108_49, x108_50, x108_51, x108_52, x108_53, x108_54, x108_55, x108_56, x108_57, x108_58, x108_59, x108_60, x108_61, x108_62, x108_63, sp_houC_t, ↓reduceIte, Option.toList, List.nil_append, List.cons_append, nI_add, pk_mul, n_and, n_or, n_xor, nI_leI, nI_ltI, nI_eq, n_z, uI_s, uI_n, bI_n0, bI_n1, bT, bF, if_true, if_false, not_true, not_false_eq_true, pk_div, pk_rem, Nat.reduceEqDiff, Nat.reduceLeDiff, Nat.reduceLT, Nat.reduceAdd, Nat.reduceMul, Nat.reduceSub, Nat.not_lt_zero, Nat.zero_le, reduceCtorEq, ite_self, n_rem, and_self, and_true, true_and, and_false, false_and, hab, tw_beside t1 ha, tw_beside t1 hb, n_bit, hbit, tw_roads t1, h12', n_one, n_sub, Nat.add_sub_cancel]
            · intro I J T hM _
              have m : ∀ k, k < 1799 → I 90 k = nI (A k) := hM.1
              refine ⟨uI (uI (uI I 90 (40 + 2 * A 0) (nI a)) 90 (40 + 2 * A 0 + 1) (nI b)) 90 0 (nI (A 0 + 1)), J, ⟨fun c k hc => by simp (disch := omega) only [uI_n], fun k hk => by simp (disch := omega) only [uI_n]⟩, ⟨by rw [eA]; exact AtM_u (AtM_u (AtM_u hM.1)), AtM_c hM.2.1 (fun k => by simp (disch := omega) only [uI_n]), by simp (disch := omega) only [uI_n]; exact hM.2.2⟩, fun Q => ?_⟩
              simp (disch := first | assumption | omega | decide) only [x177_0, x177_1, x177_2, x177_3, x177_4, x177_5, x177_6, x177_7, x177_8, x177_9, x177_10, x177_11, x177_12, x177_13, x177_14, x177_15, x177_16, x177_17, x177_18, x177_19, x177_20, x177_21, x177_22, x177_23, x177_24, x177_25, x177_26, x177_27, x177_28, x177_29, x177_30, x177_31, x177_32, x177_33, x177_34, x177_35, x177_36, x177_37, x177_38, x177_39, x177_40, x177_41, x177_42, x177_43, x177_44, x177_45, x177_46, x177_47, x177_48, x177_49, x177_50, x177_51, x177_52, x177_53, x177_54, x177_55, x177_56, x177_57, x177_58, x177_59, x177_60, x177_61, x177_62, x177_63, sp_houM_t, ↓reduceIte, Option.toList, List.nil_append, List.cons_append, nI_add, pk_mul, n_and, n_or, n_xor, nI_leI, nI_ltI, nI_eq, n_z, uI_s, uI_n, bI_n0, bI_n1, bT, bF, if_true, if_false, not_true, not_false_eq_true, pk_div, pk_rem, Nat.reduceEqDiff, Nat.reduceLeDiff, Nat.reduceLT, Nat.reduceAdd, Nat.reduceMul, Nat.reduceSub, Nat.not_lt_zero, Nat.zero_le, reduceCtorEq, ite_self, n_rem, and_self, and_true, true_and, and_false, false_and, hab, sp_besM ha wA hM.1, sp_has, bI_f hbit, m, h12, n_sub, Nat.add_sub_cancel]
    · refine jtRP w' (-1) (Or.inl rfl) ?_ ?_ <;> intro I J T Q hI
      · simp (disch := first | assumption | omega | decide) only [x108_0, x108_1, x108_2, x108_3, x108_4, x108_5, x108_6, x108_7, x108_8, x108_9, x108_10, x108_11, x108_12, x108_13, x108_14, x108_15, x108_16, x108_17, x108_18, x108_19, x108_20, x108_21, x108_22, x108_23, x108_24, x108_25, x108_26, x108_27, x108_28, x108_29, x108_30, x108_31, x108_32, x108_33, x108_34, x108_35, x108_36, x108_37, x108_38, x108_39, x108_40, x108_41, x108_42, x108_43, x108_44, x108_45, x108_46, x108_47, x108_48, x108_49, x108_50, x108_51, x108_52, x108_53, x108_54, x108_55, x108_56, x108_57, x108_58, x108_59, x108_60, x108_61, x108_62, x108_63, sp_houC_t, sp_houC_f hy, ↓reduceIte, Option.toList, List.nil_append, List.cons_append, nI_add, pk_mul, n_and, n_or, n_xor, nI_leI, nI_ltI, nI_eq, n_z, uI_s, uI_n, bI_n0, bI_n1, bT, bF, if_true, if_false, not_true, not_false_eq_true, pk_div, pk_rem, Nat.reduceEqDiff, Nat.reduceLeDiff, Nat.reduceLT, Nat.reduceAdd, Nat.reduceMul, Nat.reduceSub, Nat.not_lt_zero, Nat.zero_le, reduceCtorEq, ite_self, n_rem, and_self, and_true, true_and, and_false, false_and]
      · simp (disch := first | assumption | omega | decide) only [x177_0, x177_1, x177_2, x177_3, x177_4, x177_5, x177_6, x177_7, x177_8, x177_9, x177_10, x177_11, x177_12, x177_13, x177_14, x177_15, x177_16, x177_17, x177_18, x177_19, x177_20, x177_21, x177_22, x177_23, x177_24, x177_25, x177_26, x177_27, x177_28, x177_29, x177_30, x177_31, x177_32, x177_33, x177_34, x177_35, x177_36, x177_37, x177_38, x177_39, x177_40, x177_41, x177_42, x177_43, x177_44, x177_45, x177_46, x177_47, x177_48, x177_49, x177_50, x177_51, x177_52, x177_53, x177_54, x177_55, x177_56, x177_57, x177_58, x177_59, x177_60, x177_61, x177_62, x177_63, sp_houM_t, sp_houM_f hy, ↓reduceIte, Option.toList, List.nil_append, List.cons_append, nI_add, pk_mul, n_and, n_or, n_xor, nI_leI, nI_ltI, nI_eq, n_z, uI_s, uI_n, bI_n0, bI_n1, bT, bF, if_true, if_false, not_true, not_false_eq_true, pk_div, pk_rem, Nat.reduceEqDiff, Nat.reduceLeDiff, Nat.reduceLT, Nat.reduceAdd, Nat.reduceMul, Nat.reduceSub, Nat.not_lt_zero, Nat.zero_le, reduceCtorEq, ite_self, n_rem, and_self, and_true, true_and, and_false, false_and]
  · refine jtRP w' (-1) (Or.inl rfl) ?_ ?_ <;> intro I J T Q hI
    · simp (disch := first | assumption | omega | decide) only [x108_0, x108_1, x108_2, x108_3, x108_4, x108_5, x108_6, x108_7, x108_8, x108_9, x108_10, x108_11, x108_12, x108_13, x108_14, x108_15, x108_16, x108_17, x108_18, x108_19, x108_20, x108_21, x108_22, x108_23, x108_24, x108_25, x108_26, x108_27, x108_28, x108_29, x108_30, x108_31, x108_32, x108_33, x108_34, x108_35, x108_36, x108_37, x108_38, x108_39, x108_40, x108_41, x108_42, x108_43, x108_44, x108_45, x108_46, x108_47, x108_48, x108_49, x108_50, x108_51, x108_52, x108_53, x108_54, x108_55, x108_56, x108_57, x108_58, x108_59, x108_60, x108_61, x108_62, x108_63, sp_houC_f, ↓reduceIte, Option.toList, List.nil_append, List.cons_append, nI_add, pk_mul, n_and, n_or, n_xor, nI_leI, nI_ltI, nI_eq, n_z, uI_s, uI_n, bI_n0, bI_n1, bT, bF, if_true, if_false, not_true, not_false_eq_true, pk_div, pk_rem, Nat.reduceEqDiff, Nat.reduceLeDiff, Nat.reduceLT, Nat.reduceAdd, Nat.reduceMul, Nat.reduceSub, Nat.not_lt_zero, Nat.zero_le, reduceCtorEq, ite_self, n_rem, and_self, and_true, true_and, and_false, false_and]
    · simp (disch := first | assumption | omega | decide) only [x177_0, x177_1, x177_2, x177_3, x177_4, x177_5, x177_6, x177_7, x177_8, x177_9, x177_10, x177_11, x177_12, x177_13, x177_14, x177_15, x177_16, x177_17, x177_18, x177_19, x177_20, x177_21, x177_22, x177_23, x177_24, x177_25, x177_26, x177_27, x177_28, x177_29, x177_30, x177_31, x177_32, x177_33, x177_34, x177_35, x177_36, x177_37, x177_38, x177_39, x177_40, x177_41, x177_42, x177_43, x177_44, x177_45, x177_46, x177_47, x177_48, x177_49, x177_50, x177_51, x177_52, x177_53, x177_54, x177_55, x177_56, x177_57, x177_58, x177_59, x177_60, x177_61, x177_62, x177_63, sp_houM_f, ↓reduceIte, Option.toList, List.nil_append, List.cons_append, nI_add, pk_mul, n_and, n_or, n_xor, nI_leI, nI_ltI, nI_eq, n_z, uI_s, uI_n, bI_n0, bI_n1, bT, bF, if_true, if_false, not_true, not_false_eq_true, pk_div, pk_rem, Nat.reduceEqDiff, Nat.reduceLeDiff, Nat.reduceLT, Nat.reduceAdd, Nat.reduceMul, Nat.reduceSub, Nat.not_lt_zero, Nat.zero_le, reduceCtorEq, ite_self, n_rem, and_self, and_true, true_and, and_false, false_and]
theorem jt_road {x y : Int32} : Jt TX sc (d + 3) 108 177 [some (.ref 0), some (.int x), some (.int y)] [some (.ref 89), some (.int x), some (.int y)] := JtP_f jp_road
theorem jp_rumour {x y : Int32} : JtP TX P1 sc (d + 3) 109 178 [some (.ref 0), some (.int x), some (.int y), none] [some (.ref 89), some (.int x), some (.int y), none] := by
  intro A B M w _
  have w' := w
  obtain ⟨wA, wB, wt⟩ := w
  have w0 : A 0 ≤ 12 := wA.1.1
  have w1 : A 1 ≤ 4 := wA.1.2.1
  by_cases hx : inR x 2
  · obtain ⟨a, ha, rfl⟩ := hx
    by_cases hy : inR y 1000
    · obtain ⟨b, hb, rfl⟩ := hy
      by_cases h12 : A 1 = 4
      · refine jtRP w' (-1) (Or.inl rfl) ?_ ?_ <;> intro I J T Q hI
        · simp (disch := first | assumption | omega | decide) only [x109_0, x109_1, x109_2, x109_3, x109_4, x109_5, x109_6, x109_7, x109_8, x109_9, x109_10, x109_11, x109_12, x109_13, x109_14, x109_15, x109_16, x109_17, x109_18, x109_19, x109_20, x109_21, x109_22, x109_23, x109_24, x109_25, x109_26, x109_27, x109_28, x109_29, x109_30, x109_31, x109_32, x109_33, x109_34, x109_35, x109_36, x109_37, x109_38, x109_39, x109_40, x109_41, x109_42, x109_43, x109_44, x109_45, x109_46, x109_47, x109_48, x109_49, x109_50, x109_51, x109_52, x109_53, sp_isWithin, ↓in_t, ↓reduceIte, Option.toList, List.nil_append, List.cons_append, nI_add, pk_mul, n_and, n_or, n_xor, nI_leI, nI_ltI, nI_eq, n_z, uI_s, uI_n, bI_n0, bI_n1, bT, bF, if_true, if_false, not_true, not_false_eq_true, pk_div, pk_rem, Nat.reduceEqDiff, Nat.reduceLeDiff, Nat.reduceLT, Nat.reduceAdd, Nat.reduceMul, Nat.reduceSub, Nat.not_lt_zero, Nat.zero_le, reduceCtorEq, ite_self, n_rem, and_self, and_true, true_and, and_false, false_and, tw_rumours hI.1, h12]
        · simp (disch := first | assumption | omega | decide) only [x178_0, x178_1, x178_2, x178_3, x178_4, x178_5, x178_6, x178_7, x178_8, x178_9, x178_10, x178_11, x178_12, x178_13, x178_14, x178_15, x178_16, x178_17, x178_18, x178_19, x178_20, x178_21, x178_22, x178_23, x178_24, x178_25, x178_26, x178_27, x178_28, x178_29, x178_30, x178_31, x178_32, x178_33, x178_34, x178_35, x178_36, x178_37, x178_38, x178_39, x178_40, x178_41, x178_42, x178_43, x178_44, x178_45, x178_46, x178_47, x178_48, x178_49, x178_50, x178_51, x178_52, x178_53, sp_isIn, ↓in_t, ↓reduceIte, Option.toList, List.nil_append, List.cons_append, nI_add, pk_mul, n_and, n_or, n_xor, nI_leI, nI_ltI, nI_eq, n_z, uI_s, uI_n, bI_n0, bI_n1, bT, bF, if_true, if_false, not_true, not_false_eq_true, pk_div, pk_rem, Nat.reduceEqDiff, Nat.reduceLeDiff, Nat.reduceLT, Nat.reduceAdd, Nat.reduceMul, Nat.reduceSub, Nat.not_lt_zero, Nat.zero_le, reduceCtorEq, ite_self, n_rem, and_self, and_true, true_and, and_false, false_and, hI.1 1 (by decide), h12]
      · obtain ⟨A', eA⟩ : ∃ X, X = upA (upA (upA (upA A (64 + A 1) a) (68 + A 1) b) (28 + A 1) b) 1 (A 1 + 1) := ⟨_, rfl⟩
        have fA : ∀ k, (k ≠ 64 + A 1 ∧ k ≠ 68 + A 1 ∧ k ≠ 28 + A 1 ∧ k ≠ 1) → A' k = A k := fun k ⟨h1, h2, h3, h4⟩ => by rw [eA, upA_n h4, upA_n h3, upA_n h2, upA_n h1]
        have e1 : A' 1 = A 1 + 1 := by rw [eA, upA_s]
        have e2 : A' (64 + A 1) = a := by rw [eA, upA_n (by omega), upA_n (by omega), upA_n (by omega), upA_s]
        have e3 : A' (68 + A 1) = b := by rw [eA, upA_n (by omega), upA_n (by omega), upA_s]
        have e4 : A' (28 + A 1) = b := by rw [eA, upA_n (by omega), upA_s]
        have f2 : A' 2 = A 2 := fA 2 (by omega)
        have h12' : A 1 < 4 := by omega
        have W1 : Wf1 A' := by
          obtain ⟨v0, v1, v⟩ := wA.1
          unfold Wf1
          rw [e1, fA 0 (by omega), fA 2 (by omega), fA 3 (by omega), fA 4 (by omega), fA 5 (by omega), fA 6 (by omega), fA 7 (by omega), fA 8 (by omega), fA 9 (by omega), fA 10 (by omega), fA 11 (by omega)]
          exact ⟨v0, by omega, v⟩
        have W2 : Wf2 A' := by
          obtain ⟨v1, v2, v3, v4, v5, v6, v7⟩ := wA.2.1
          refine ⟨?_, ?_, ?_, ?_, ?_, ?_, ?_⟩
          · intro j hj; rw [fA _ (by omega), e1, Nat.pow_succ]; have := v1 j hj; omega
          · intro j hj; rw [fA _ (by omega)]; exact v2 j hj
          · intro j hj; rw [fA _ (by omega)]; exact v3 j hj
          · intro j hj
            by_cases e : j = A 1
            · rw [e, e4]; omega
            · rw [fA _ (by omega)]; exact v4 j hj
          · intro j hj
            by_cases e : j = A 1
            · rw [e, e2]; omega
            · rw [fA _ (by omega)]; exact v5 j hj
          · intro j hj
            by_cases e : j = A 1
            · rw [e, e3]; omega
            · rw [fA _ (by omega)]; exact v6 j hj
          · intro j hj; rw [fA _ (by omega)]; exact v7 j hj
        have W4 : Wf4 A' := by
          obtain ⟨v1, v2, v3⟩ := wA.2.2.2.1
          obtain ⟨u0, u1, u2, u3, u4, u5, u6, u7, -⟩ := wA.1
          refine ⟨?_, ?_, ?_⟩
          · intro j hj; rw [fA 5 (by omega)] at hj; rw [fA _ (by omega), fA _ (by omega)]; exact v1 j hj
          · intro j hj; rw [fA 6 (by omega)] at hj; rw [fA _ (by omega)]; exact v2 j hj
          · intro j hj
            rw [fA 7 (by omega)] at hj
            rw [fA _ (by omega), fA _ (by omega), e1, fA _ (by omega)]
            have := v3 j hj
            omega
        have W5 : Wf5 A' := Wf5_r (by omega) (fun k hk => fA k (by omega)) wA.1.2.2.2.2.1 wA.2.2.2.2
        have k0 : kpr A' (A 1) = 0 := by
          apply Nat.eq_of_testBit_eq
          intro h
          rw [kpr, kp_bit, Nat.zero_testBit]
          by_cases hh : h < 8
          · rw [fA _ (by omega), tb_f, Bool.and_false]
            have := wA.2.1.1 h hh
            rw [Nat.div_eq_of_lt this]
            decide
          · rw [decide_eq_false hh, Bool.false_and]
        refine ⟨nI (A 1), A', B, Or.inr ⟨_, by omega, rfl⟩, ⟨⟨W1, W2, (Wf3_c (fun k hk => fA k (by omega)) wA.1.1 wA.2.2.1), W4, W5⟩, wB, by omega⟩, by omega, ?_, ?_⟩
        · intro I J T hC _
          obtain ⟨t1, t2, s1, s2, n1, n2⟩ := hC
          obtain ⟨I1, eI⟩ : ∃ X, X = uI (uI (uI (uI (uI I 5 (A 1) (nI a)) 6 (A 1) (nI b)) 7 (A 1) (nI b)) 8 (A 1) (nI 0)) 1 10 (nI (A 1 + 1)) := ⟨_, rfl⟩
          have fI : ∀ c k, (c < 5 ∨ 8 < c ∨ k ≠ A 1) ∧ (c ≠ 1 ∨ k ≠ 10) → I1 c k = I c k := fun c k hk => by rw [eI, uI_n (by omega), uI_n (by omega), uI_n (by omega), uI_n (by omega), uI_n (by omega)]
          refine ⟨I1, fun c k hc => fI c k (by omega), ⟨⟨(fun h hh => by rw [fI _ _ (by omega), fA _ (by omega)]; exact tw_rooms t1 hh), (fun h hh => by rw [fI _ _ (by omega), fA _ (by omega)]; exact tw_income t1 hh), (fun h hh => by rw [fI _ _ (by omega), bes_c (fun k hk => fA k (by omega)) w0]; exact tw_beside t1 hh), ?_, ?_, ?_, ?_, (fun h hh => by rw [fI _ _ (by omega), fA _ (by omega)]; exact tw_pages t1 hh), (by rw [fI _ _ (by omega), fA _ (by omega)]; exact tw_written t1), (by rw [fI _ _ (by omega), fA _ (by omega)]; exact tw_roads t1), ?_, (by rw [fI _ _ (by omega), fA _ (by omega)]; exact tw_day t1), (by rw [fI _ _ (by omega), fA _ (by omega)]; exact tw_x t1), (by rw [fI _ _ (by omega), fA _ (by omega)]; exact tw_paid t1), (by rw [fI _ _ (by omega), fA _ (by omega)]; exact tw_texts t1), (by rw [fI _ _ (by omega), fA _ (by omega)]; exact tw_ruling t1)⟩, Twn_c t2 (fun c k hc => fI c k (by omega)) (fun _ _ _ _ => rfl) ⟨wB.1.1, wB.1.2.1⟩, Stw_c s1 (fun c k hc => fI c k (by omega)) (fA 4 (by omega)) (fun k h1 h2 => fA k (by omega)) wA, Stw_c s2 (fun c k hc => fI c k (by omega)) rfl (fun _ _ _ => rfl) wB, Nts_c n1 (fun c k hc => fI c k (by omega)) (fun k hk => fA k (by omega)) wA.1, Nts_c n2 (fun c k hc => fI c k (by omega)) (fun _ _ => rfl) wB.1⟩, fun Q => ?_⟩
          · intro r hr
            by_cases e : r = A 1
            · rw [e, e2, eI, uI_n (by omega), uI_n (by omega), uI_n (by omega), uI_n (by omega), uI_s]
            · rw [fI _ _ (by omega), fA _ (by omega)]
              exact tw_truth t1 (by omega)
          · intro r hr
            by_cases e : r = A 1
            · rw [e, e4, eI, uI_n (by omega), uI_n (by omega), uI_n (by omega), uI_s]
            · rw [fI _ _ (by omega), fA _ (by omega)]
              exact tw_purse t1 (by omega)
          · intro r hr
            by_cases e : r = A 1
            · rw [e, e3, eI, uI_n (by omega), uI_n (by omega), uI_s]
            · rw [fI _ _ (by omega), fA _ (by omega)]
              exact tw_told t1 (by omega)
          · intro r hr
            by_cases e : r = A 1
            · rw [e, k0, eI, uI_n (by omega), uI_s]
            · rw [fI _ _ (by omega), kpr_c (fun h hh => fA _ (by omega))]
              exact tw_keepers t1 (by omega)
          · rw [eI, uI_s, e1]
          · rw [eI]
            simp (disch := first | assumption | omega | decide) only [x109_0, x109_1, x109_2, x109_3, x109_4, x109_5, x109_6, x109_7, x109_8, x109_9, x109_10, x109_11, x109_12, x109_13, x109_14, x109_15, x109_16, x109_17, x109_18, x109_19, x109_20, x109_21, x109_22, x109_23, x109_24, x109_25, x109_26, x109_27, x109_28, x109_29, x109_30, x109_31, x109_32, x109_33, x109_34, x109_35, x109_36, x109_37, x109_38, x109_39, x109_40, x109_41, x109_42, x109_43, x109_44, x109_45, x109_46, x109_47, x109_48, x109_49, x109_50, x109_51, x109_52, x109_53, sp_isWithin, ↓in_t, ↓reduceIte, Option.toList, List.nil_append, List.cons_append, nI_add, pk_mul, n_and, n_or, n_xor, nI_leI, nI_ltI, nI_eq, n_z, uI_s, uI_n, bI_n0, bI_n1, bT, bF, if_true, if_false, not_true, not_false_eq_true, pk_div, pk_rem, Nat.reduceEqDiff, Nat.reduceLeDiff, Nat.reduceLT, Nat.reduceAdd, Nat.reduceMul, Nat.reduceSub, Nat.not_lt_zero, Nat.zero_le, reduceCtorEq, ite_self, n_rem, and_self, and_true, true_and, and_false, false_and, tw_rumours t1, h12']
        · intro I J T hM _
          have m : ∀ k, k < 1799 → I 90 k = nI (A k) := hM.1
          refine ⟨uI (uI (uI (uI I 90 (64 + A 1) (nI a)) 90 (68 + A 1) (nI b)) 90 (28 + A 1) (nI b)) 90 1 (nI (A 1 + 1)), J, ⟨fun c k hc => by simp (disch := omega) only [uI_n], fun k hk => by simp (disch := omega) only [uI_n]⟩, ⟨by rw [eA]; exact AtM_u (AtM_u (AtM_u (AtM_u hM.1))), AtM_c hM.2.1 (fun k => by simp (disch := omega) only [uI_n]), by simp (disch := omega) only [uI_n]; exact hM.2.2⟩, fun Q => ?_⟩
          simp (disch := first | assumption | omega | decide) only [x178_0, x178_1, x178_2, x178_3, x178_4, x178_5, x178_6, x178_7, x178_8, x178_9, x178_10, x178_11, x178_12, x178_13, x178_14, x178_15, x178_16, x178_17, x178_18, x178_19, x178_20, x178_21, x178_22, x178_23, x178_24, x178_25, x178_26, x178_27, x178_28, x178_29, x178_30, x178_31, x178_32, x178_33, x178_34, x178_35, x178_36, x178_37, x178_38, x178_39, x178_40, x178_41, x178_42, x178_43, x178_44, x178_45, x178_46, x178_47, x178_48, x178_49, x178_50, x178_51, x178_52, x178_53, sp_isIn, ↓in_t, ↓reduceIte, Option.toList, List.nil_append, List.cons_append, nI_add, pk_mul, n_and, n_or, n_xor, nI_leI, nI_ltI, nI_eq, n_z, uI_s, uI_n, bI_n0, bI_n1, bT, bF, if_true, if_false, not_true, not_false_eq_true, pk_div, pk_rem, Nat.reduceEqDiff, Nat.reduceLeDiff, Nat.reduceLT, Nat.reduceAdd, Nat.reduceMul, Nat.reduceSub, Nat.not_lt_zero, Nat.zero_le, reduceCtorEq, ite_self, n_rem, and_self, and_true, true_and, and_false, false_and, m, h12]
    · refine jtRP w' (-1) (Or.inl rfl) ?_ ?_ <;> intro I J T Q hI
      · simp (disch := first | assumption | omega | decide) only [x109_0, x109_1, x109_2, x109_3, x109_4, x109_5, x109_6, x109_7, x109_8, x109_9, x109_10, x109_11, x109_12, x109_13, x109_14, x109_15, x109_16, x109_17, x109_18, x109_19, x109_20, x109_21, x109_22, x109_23, x109_24, x109_25, x109_26, x109_27, x109_28, x109_29, x109_30, x109_31, x109_32, x109_33, x109_34, x109_35, x109_36, x109_37, x109_38, x109_39, x109_40, x109_41, x109_42, x109_43, x109_44, x109_45, x109_46, x109_47, x109_48, x109_49, x109_50, x109_51, x109_52, x109_53, sp_isWithin, ↓in_t, ↓in_f hy, ↓reduceIte, Option.toList, List.nil_append, List.cons_append, nI_add, pk_mul, n_and, n_or, n_xor, nI_leI, nI_ltI, nI_eq, n_z, uI_s, uI_n, bI_n0, bI_n1, bT, bF, if_true, if_false, not_true, not_false_eq_true, pk_div, pk_rem, Nat.reduceEqDiff, Nat.reduceLeDiff, Nat.reduceLT, Nat.reduceAdd, Nat.reduceMul, Nat.reduceSub, Nat.not_lt_zero, Nat.zero_le, reduceCtorEq, ite_self, n_rem, and_self, and_true, true_and, and_false, false_and]
      · simp (disch := first | assumption | omega | decide) only [x178_0, x178_1, x178_2, x178_3, x178_4, x178_5, x178_6, x178_7, x178_8, x178_9, x178_10, x178_11, x178_12, x178_13, x178_14, x178_15, x178_16, x178_17, x178_18, x178_19, x178_20, x178_21, x178_22, x178_23, x178_24, x178_25, x178_26, x178_27, x178_28, x178_29, x178_30, x178_31, x178_32, x178_33, x178_34, x178_35, x178_36, x178_37, x178_38, x178_39, x178_40, x178_41, x178_42, x178_43, x178_44, x178_45, x178_46, x178_47, x178_48, x178_49, x178_50, x178_51, x178_52, x178_53, sp_isIn, ↓in_t, ↓in_f hy, ↓reduceIte, Option.toList, List.nil_append, List.cons_append, nI_add, pk_mul, n_and, n_or, n_xor, nI_leI, nI_ltI, nI_eq, n_z, uI_s, uI_n, bI_n0, bI_n1, bT, bF, if_true, if_false, not_true, not_false_eq_true, pk_div, pk_rem, Nat.reduceEqDiff, Nat.reduceLeDiff, Nat.reduceLT, Nat.reduceAdd, Nat.reduceMul, Nat.reduceSub, Nat.not_lt_zero, Nat.zero_le, reduceCtorEq, ite_self, n_rem, and_self, and_true, true_and, and_false, false_and]
  · refine jtRP w' (-1) (Or.inl rfl) ?_ ?_ <;> intro I J T Q hI
    · simp (disch := first | assumption | omega | decide) only [x109_0, x109_1, x109_2, x109_3, x109_4, x109_5, x109_6, x109_7, x109_8, x109_9, x109_10, x109_11, x109_12, x109_13, x109_14, x109_15, x109_16, x109_17, x109_18, x109_19, x109_20, x109_21, x109_22, x109_23, x109_24, x109_25, x109_26, x109_27, x109_28, x109_29, x109_30, x109_31, x109_32, x109_33, x109_34, x109_35, x109_36, x109_37, x109_38, x109_39, x109_40, x109_41, x109_42, x109_43, x109_44, x109_45, x109_46, x109_47, x109_48, x109_49, x109_50, x109_51, x109_52, x109_53, sp_isWithin, ↓in_f hx, ↓reduceIte, Option.toList, List.nil_append, List.cons_append, nI_add, pk_mul, n_and, n_or, n_xor, nI_leI, nI_ltI, nI_eq, n_z, uI_s, uI_n, bI_n0, bI_n1, bT, bF, if_true, if_false, not_true, not_false_eq_true, pk_div, pk_rem, Nat.reduceEqDiff, Nat.reduceLeDiff, Nat.reduceLT, Nat.reduceAdd, Nat.reduceMul, Nat.reduceSub, Nat.not_lt_zero, Nat.zero_le, reduceCtorEq, ite_self, n_rem, and_self, and_true, true_and, and_false, false_and]
    · simp (disch := first | assumption | omega | decide) only [x178_0, x178_1, x178_2, x178_3, x178_4, x178_5, x178_6, x178_7, x178_8, x178_9, x178_10, x178_11, x178_12, x178_13, x178_14, x178_15, x178_16, x178_17, x178_18, x178_19, x178_20, x178_21, x178_22, x178_23, x178_24, x178_25, x178_26, x178_27, x178_28, x178_29, x178_30, x178_31, x178_32, x178_33, x178_34, x178_35, x178_36, x178_37, x178_38, x178_39, x178_40, x178_41, x178_42, x178_43, x178_44, x178_45, x178_46, x178_47, x178_48, x178_49, x178_50, x178_51, x178_52, x178_53, sp_isIn, ↓in_f hx, ↓reduceIte, Option.toList, List.nil_append, List.cons_append, nI_add, pk_mul, n_and, n_or, n_xor, nI_leI, nI_ltI, nI_eq, n_z, uI_s, uI_n, bI_n0, bI_n1, bT, bF, if_true, if_false, not_true, not_false_eq_true, pk_div, pk_rem, Nat.reduceEqDiff, Nat.reduceLeDiff, Nat.reduceLT, Nat.reduceAdd, Nat.reduceMul, Nat.reduceSub, Nat.not_lt_zero, Nat.zero_le, reduceCtorEq, ite_self, n_rem, and_self, and_true, true_and, and_false, false_and]
theorem jt_rumour {x y : Int32} : Jt TX sc (d + 3) 109 178 [some (.ref 0), some (.int x), some (.int y), none] [some (.ref 89), some (.int x), some (.int y), none] := JtP_f jp_rumour
end Upd
