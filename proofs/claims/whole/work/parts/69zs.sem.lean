/-! what the codes of a sum come to -/
def AtL (code : Nat → Nat) (i : Nat) (l : List Nat) : Prop := ∀ j, j < l.length → code (i + j) = l.getD j 0
def AtP (mo mv : Nat → Nat) (i : Nat) (l : List (Nat × Nat)) : Prop := ∀ j, j < l.length → mo (i + j) = (l.getD j (0, 0)).1 ∧ mv (i + j) = (l.getD j (0, 0)).2
theorem gd_r {l r : List Nat} {j : Nat} : (l ++ r).getD (l.length + j) 0 = r.getD j 0 := by
  rw [List.getD_eq_getElem?_getD, List.getD_eq_getElem?_getD, List.getElem?_append_right (Nat.le_add_right _ _), Nat.add_sub_cancel_left]
theorem gp_r {l r : List (Nat × Nat)} {j : Nat} : (l ++ r).getD (l.length + j) (0, 0) = r.getD j (0, 0) := by
  rw [List.getD_eq_getElem?_getD, List.getD_eq_getElem?_getD, List.getElem?_append_right (Nat.le_add_right _ _), Nat.add_sub_cancel_left]
theorem at_a {code : Nat → Nat} {i : Nat} {l r : List Nat} (h : AtL code i (l ++ r)) : AtL code i l ∧ AtL code (i + l.length) r := by
  refine ⟨fun j hj => ?_, fun j hj => ?_⟩
  · rw [h j (by rw [List.length_append]; omega), gd_a hj]
  · rw [Nat.add_assoc, h (l.length + j) (by rw [List.length_append]; omega), gd_r]
theorem ap_a {mo mv : Nat → Nat} {i : Nat} {l r : List (Nat × Nat)} (h : AtP mo mv i (l ++ r)) : AtP mo mv i l ∧ AtP mo mv (i + l.length) r := by
  refine ⟨fun j hj => ?_, fun j hj => ?_⟩
  · have := h j (by rw [List.length_append]; omega)
    rw [gp_a hj] at this
    exact this
  · have := h (l.length + j) (by rw [List.length_append]; omega)
    rw [gp_r, ← Nat.add_assoc] at this
    exact this
theorem at_1 {code : Nat → Nat} {i x : Nat} (h : AtL code i [x]) : code i = x := h 0 (Nat.zero_lt_succ _)
theorem ap_1 {mo mv : Nat → Nat} {i x y : Nat} (h : AtP mo mv i [(x, y)]) : mo i = x ∧ mv i = y := h 0 (Nat.zero_lt_succ _)
section Sem
variable {code mo mv : Nat → Nat} {nm : Nat → Int32} {kp : Int32 → Int32} {e L : Nat}
theorem cr_t : ∀ (s : Nat) {s' i j k : Nat} {S S' S'' : List Int32}, CRn code nm kp e s i S j S' → CRn code nm kp e s' j S' k S'' → CRn code nm kp e (s + s') i S k S''
  | 0, s', i, j, k, S, S', S'', h, h' => by
    obtain ⟨h1, h2⟩ := h
    rw [h1, h2, Nat.zero_add]
    exact h'
  | s + 1, s', i, j, k, S, S', S'', h, h' => by
    obtain ⟨h1, h2, i1, S1, h3, h4⟩ := h
    rw [show s + 1 + s' = s + s' + 1 by omega]
    exact ⟨h1, h2, i1, S1, h3, cr_t s h4 h'⟩
theorem cr_1 {i i1 : Nat} {S S1 : List Int32} (h1 : i < e) (h2 : S.length ≤ 64) (h : CSt code nm kp i S i1 S1) : CRn code nm kp e 1 i S i1 S1 := ⟨h1, h2, i1, S1, h, rfl, rfl⟩
theorem mr_t : ∀ (s : Nat) {s' i : Nat} {V V' V'' : List Int32} {Z Z' Z'' : List Bool}, MRn mo mv L nm kp s i V Z V' Z' → MRn mo mv L nm kp s' (i + s) V' Z' V'' Z'' → MRn mo mv L nm kp (s + s') i V Z V'' Z''
  | 0, s', i, V, V', V'', Z, Z', Z'', h, h' => by
    obtain ⟨h1, h2⟩ := h
    rw [h1, h2, Nat.zero_add]
    exact h'
  | s + 1, s', i, V, V', V'', Z, Z', Z'', h, h' => by
    obtain ⟨h1, h2, V1, Z1, h3, h4⟩ := h
    rw [show s + 1 + s' = s + s' + 1 by omega]
    refine ⟨h1, h2, V1, Z1, h3, mr_t s h4 ?_⟩
    rw [show i + 1 + s = i + (s + 1) by omega]
    exact h'
theorem mr_1 {i : Nat} {V V1 : List Int32} {Z Z1 : List Bool} (h1 : V.length < 329) (h2 : Z.length < 329) (h : MSt mo mv L nm kp i V Z V1 Z1) : MRn mo mv L nm kp 1 i V Z V1 Z1 := ⟨h1, h2, V1, Z1, h, rfl, rfl⟩
end Sem
def SmE (L : Nat) (c : Cd) (h : Nat) : Prop := ∃ den : (Nat → Int32) → (Int32 → Int32) → Int32, ∀ nm kp, OkE nm kp → bd (den nm kp) ∧ (∀ code e i S, AtL code i c.1 → i + c.1.length ≤ e → S.length + h ≤ 64 → ∃ s, CRn code nm kp e s i S (i + c.1.length) (den nm kp :: S)) ∧ (∀ mo mv i V Z, AtP mo mv i c.2 → V.length + h ≤ 300 → Z.length + h ≤ 300 → MRn mo mv L nm kp c.2.length i V Z (den nm kp :: V) Z)
def SmC (L : Nat) (c : Cd) (h : Nat) : Prop := ∃ den : (Nat → Int32) → (Int32 → Int32) → Bool, ∀ nm kp, OkE nm kp → (∀ code e i S, AtL code i c.1 → i + c.1.length ≤ e → S.length + h ≤ 64 → ∃ s, CRn code nm kp e s i S (i + c.1.length) (bo (den nm kp) :: S)) ∧ (∀ mo mv i V Z, AtP mo mv i c.2 → V.length + h ≤ 300 → Z.length + h ≤ 300 → MRn mo mv L nm kp c.2.length i V Z V (den nm kp :: Z))
theorem se_m {L h h' : Nat} {c : Cd} (H : SmE L c h) (hh : h ≤ h') : SmE L c h' := by
  obtain ⟨den, H⟩ := H
  refine ⟨den, fun nm kp ok => ?_⟩
  obtain ⟨h1, h2, h3⟩ := H nm kp ok
  exact ⟨h1, fun code e i S a b c => h2 code e i S a b (by omega), fun mo mv i V Z a b c => h3 mo mv i V Z a (by omega) (by omega)⟩
theorem sc_m {L h h' : Nat} {c : Cd} (H : SmC L c h) (hh : h ≤ h') : SmC L c h' := by
  obtain ⟨den, H⟩ := H
  refine ⟨den, fun nm kp ok => ?_⟩
  obtain ⟨h2, h3⟩ := H nm kp ok
  exact ⟨fun code e i S a b c => h2 code e i S a b (by omega), fun mo mv i V Z a b c => h3 mo mv i V Z a (by omega) (by omega)⟩
theorem bd_neg {x : Int32} (h : bd x) : bd (-x) := by
  unfold bd at h ⊢
  rw [Int32.toInt_neg, Int.bmod_eq_of_le (by omega) (by omega)]
  omega
section Sem2
variable {L h h' : Nat} {a c e : Cd}
theorem se_num {v : Nat} (hv : v ≤ 9999) : SmE L ([41 + v * 64], [(0, v)]) 1 := by
  refine ⟨fun _ _ => nI v, fun nm kp ok => ⟨bd_n (by omega), fun code e i S ha he hl => ⟨1, ?_⟩, fun mo mv i V Z ha hV hZ => ?_⟩⟩
  · have ec : code i = 41 + v * 64 := at_1 ha
    have e1 : i + ([41 + v * 64] : List Nat).length = i + 1 := rfl
    rw [e1] at he
    refine cr_1 (by omega) (by omega) (Or.inl ⟨by rw [ec]; omega, by omega, rfl, ?_⟩)
    rw [ec, show (41 + v * 64) / 64 = v by omega]
  · obtain ⟨e1, e2⟩ := ap_1 ha
    refine mr_1 (by omega) (by omega) (Or.inl ⟨e1, rfl, ?_⟩)
    rw [e2]
theorem wk_kw {K : Nat} (h : 7 ≤ K ∧ K ≤ 15) : wk (kw K) = K := by
  have : K = 7 ∨ K = 8 ∨ K = 9 ∨ K = 10 ∨ K = 11 ∨ K = 12 ∨ K = 13 ∨ K = 14 ∨ K = 15 := by omega
  rcases this with rfl | rfl | rfl | rfl | rfl | rfl | rfl | rfl | rfl <;> decide
theorem se_nam {K : Nat} (hK : 7 ≤ K ∧ K ≤ 15) (hn : okN L (kw K)) : SmE L ([K], [(1, kw K)]) 1 := by
  refine ⟨fun nm _ => nm K, fun nm kp ok => ⟨ok.1 K, fun code e i S ha he hl => ⟨1, ?_⟩, fun mo mv i V Z ha hV hZ => ?_⟩⟩
  · have ec : code i = K := at_1 ha
    have e1 : i + ([K] : List Nat).length = i + 1 := rfl
    rw [e1] at he
    have em : code i % 64 = K := by
      rw [ec]
      omega
    refine cr_1 (by omega) (by omega) (Or.inr (Or.inl ⟨by omega, by omega, rfl, ?_⟩))
    rw [em]
  · obtain ⟨e1, e2⟩ := ap_1 ha
    refine mr_1 (by omega) (by omega) (Or.inr (Or.inl ⟨e1, by rw [e2]; exact hn, rfl, ?_⟩))
    rw [e2, wk_kw hK]
/-- a sign behind two -/
theorem se_2 {x o : Nat} (hx : isO2 x) (x64 : x < 64) (ho : (o = 4 ∧ x = 19) ∨ ((o = 6 ∨ o = 7 ∨ o = 8 ∨ o = 9) ∧ x = o + 26)) (A : SmE L a h') (C : SmE L c h) (hh : h + 1 ≤ h') (h1 : 1 ≤ h) : SmE L (a.1 ++ c.1 ++ [x], a.2 ++ c.2 ++ [(o, 0)]) h' := by
  obtain ⟨da, A⟩ := A
  obtain ⟨dc, C⟩ := C
  refine ⟨fun nm kp => cutI (op2 x (da nm kp).toInt64 (dc nm kp).toInt64), fun nm kp ok => ?_⟩
  obtain ⟨a1, a2, a3⟩ := A nm kp ok
  obtain ⟨c1, c2, c3⟩ := C nm kp ok
  refine ⟨cut_b _, fun code e i S ha he hl => ?_, fun mo mv i V Z ha hV hZ => ?_⟩
  · obtain ⟨ha1, ha2⟩ := at_a ha
    obtain ⟨ha3, ha4⟩ := at_a ha1
    have ex := at_1 ha2
    have el : (a.1 ++ c.1 ++ [x]).length = a.1.length + c.1.length + 1 := by
      simp only [List.length_append, List.length_cons, List.length_nil]
    have el2 : (a.1 ++ c.1).length = a.1.length + c.1.length := List.length_append
    show ∃ s, CRn code nm kp e s i S (i + (a.1 ++ c.1 ++ [x]).length) _
    have he : i + (a.1 ++ c.1 ++ [x]).length ≤ e := he
    rw [el] at he ⊢
    rw [el2] at ex
    obtain ⟨s1, r1⟩ := a2 code e i S ha3 (by omega) hl
    obtain ⟨s2, r2⟩ := c2 code e (i + a.1.length) (da nm kp :: S) ha4 (by omega) (by rw [List.length_cons]; omega)
    have em : code (i + (a.1.length + c.1.length)) % 64 = x := by
      rw [ex]
      omega
    have r3 : CRn code nm kp e 1 (i + (a.1.length + c.1.length)) (dc nm kp :: da nm kp :: S) (i + (a.1.length + c.1.length + 1)) (cutI (op2 x (da nm kp).toInt64 (dc nm kp).toInt64) :: S) := by
      refine cr_1 (by omega) (by rw [List.length_cons, List.length_cons]; omega) ?_
      refine Or.inr (Or.inr (Or.inr (Or.inr (Or.inr (Or.inr (Or.inr ⟨by rw [em]; exact hx, by omega, _, _, S, rfl, ?_⟩))))))
      rw [em]
    rw [show i + a.1.length + c.1.length = i + (a.1.length + c.1.length) by omega] at r2
    exact ⟨_, cr_t _ r1 (cr_t _ r2 r3)⟩
  · obtain ⟨ha1, ha2⟩ := ap_a ha
    obtain ⟨ha3, ha4⟩ := ap_a ha1
    obtain ⟨ex, -⟩ := ap_1 ha2
    have el : (a.2 ++ c.2 ++ [(o, 0)]).length = a.2.length + (c.2.length + 1) := by
      simp only [List.length_append, List.length_cons, List.length_nil]
      omega
    have el2 : (a.2 ++ c.2).length = a.2.length + c.2.length := List.length_append
    show MRn mo mv L nm kp (a.2 ++ c.2 ++ [(o, 0)]).length i V Z _ Z
    rw [el]
    rw [el2] at ex
    refine mr_t _ (a3 mo mv i V Z ha3 hV hZ) (mr_t _ (c3 mo mv (i + a.2.length) (da nm kp :: V) Z ha4 (by rw [List.length_cons]; omega) (by omega)) (mr_1 (by rw [List.length_cons, List.length_cons]; omega) (by omega) ?_))
    rw [show i + a.2.length + c.2.length = i + (a.2.length + c.2.length) by omega]
    rcases ho with ⟨ho, hx2⟩ | ⟨ho, hx2⟩
    · refine Or.inr (Or.inr (Or.inr (Or.inr (Or.inr (Or.inl ⟨ex.trans ho, rfl, _, _, V, rfl, a1, c1, ?_⟩)))))
      rw [hx2]
    · refine Or.inr (Or.inr (Or.inr (Or.inr (Or.inr (Or.inr (Or.inl ⟨by rw [ex]; exact ho, rfl, _, _, V, rfl, ?_⟩))))))
      rw [ex, hx2]
theorem se_neg (C : SmE L c h) (h1 : 1 ≤ h) : SmE L (c.1 ++ [44], c.2 ++ [(5, 0)]) h := by
  obtain ⟨dc, C⟩ := C
  refine ⟨fun nm kp => -(dc nm kp), fun nm kp ok => ?_⟩
  obtain ⟨c1, c2, c3⟩ := C nm kp ok
  refine ⟨bd_neg c1, fun code e i S ha he hl => ?_, fun mo mv i V Z ha hV hZ => ?_⟩
  · obtain ⟨ha1, ha2⟩ := at_a ha
    have ex := at_1 ha2
    have he : i + (c.1 ++ [44]).length ≤ e := he
    show ∃ s, CRn code nm kp e s i S (i + (c.1 ++ [44]).length) _
    rw [List.length_append, List.length_cons, List.length_nil] at he ⊢
    obtain ⟨s1, r1⟩ := c2 code e i S ha1 (by omega) hl
    have em : code (i + c.1.length) % 64 = 44 := by rw [ex]
    exact ⟨_, cr_t _ r1 (cr_1 (by omega) (by rw [List.length_cons]; omega) (Or.inr (Or.inr (Or.inr (Or.inr (Or.inl ⟨em, by omega, _, S, rfl, rfl⟩))))))⟩
  · obtain ⟨ha1, ha2⟩ := ap_a ha
    obtain ⟨ex, -⟩ := ap_1 ha2
    show MRn mo mv L nm kp (c.2 ++ [(5, 0)]).length i V Z _ Z
    rw [List.length_append, List.length_cons, List.length_nil]
    exact mr_t _ (c3 mo mv i V Z ha1 hV hZ) (mr_1 (by rw [List.length_cons]; omega) (by omega) (Or.inr (Or.inr (Or.inr (Or.inl ⟨ex, rfl, _, V, rfl, c1, rfl⟩)))))
theorem se_kep (C : SmE L c h) (h1 : 1 ≤ h) : SmE L (c.1 ++ [20], c.2 ++ [(2, 0)]) h := by
  obtain ⟨dc, C⟩ := C
  refine ⟨fun nm kp => kp (dc nm kp), fun nm kp ok => ?_⟩
  obtain ⟨c1, c2, c3⟩ := C nm kp ok
  refine ⟨ok.2 _, fun code e i S ha he hl => ?_, fun mo mv i V Z ha hV hZ => ?_⟩
  · obtain ⟨ha1, ha2⟩ := at_a ha
    have ex := at_1 ha2
    have he : i + (c.1 ++ [20]).length ≤ e := he
    show ∃ s, CRn code nm kp e s i S (i + (c.1 ++ [20]).length) _
    rw [List.length_append, List.length_cons, List.length_nil] at he ⊢
    obtain ⟨s1, r1⟩ := c2 code e i S ha1 (by omega) hl
    have em : code (i + c.1.length) % 64 = 20 := by rw [ex]
    exact ⟨_, cr_t _ r1 (cr_1 (by omega) (by rw [List.length_cons]; omega) (Or.inr (Or.inr (Or.inr (Or.inr (Or.inr (Or.inr (Or.inl ⟨em, by omega, _, S, rfl, rfl⟩))))))))⟩
  · obtain ⟨ha1, ha2⟩ := ap_a ha
    obtain ⟨ex, -⟩ := ap_1 ha2
    show MRn mo mv L nm kp (c.2 ++ [(2, 0)]).length i V Z _ Z
    rw [List.length_append, List.length_cons, List.length_nil]
    exact mr_t _ (c3 mo mv i V Z ha1 hV hZ) (mr_1 (by rw [List.length_cons]; omega) (by omega) (Or.inr (Or.inr (Or.inr (Or.inr (Or.inl ⟨ex, rfl, _, V, rfl, rfl⟩))))))
theorem op_01 {w : Nat} {x y : Int64} (hw : isCmp w = true) : cutI (op2 w x y) = bo (decide (op2 w x y = 1)) := by
  have h01 : op2 w x y = 1 ∨ op2 w x y = 0 := by
    have := of_decide_eq_true hw
    have : w = 28 ∨ w = 29 ∨ w = 30 ∨ w = 31 ∨ w = 39 ∨ w = 40 := by omega
    rcases this with rfl | rfl | rfl | rfl | rfl | rfl
    · show (if x < y then (1 : Int64) else 0) = 1 ∨ (if x < y then (1 : Int64) else 0) = 0
      split
      · exact Or.inl rfl
      · exact Or.inr rfl
    · show (if y < x then (1 : Int64) else 0) = 1 ∨ (if y < x then (1 : Int64) else 0) = 0
      split
      · exact Or.inl rfl
      · exact Or.inr rfl
    · show (if x = y then (1 : Int64) else 0) = 1 ∨ (if x = y then (1 : Int64) else 0) = 0
      split
      · exact Or.inl rfl
      · exact Or.inr rfl
    · show (if x = y then (0 : Int64) else 1) = 1 ∨ (if x = y then (0 : Int64) else 1) = 0
      split
      · exact Or.inr rfl
      · exact Or.inl rfl
    · show (if x ≤ y then (1 : Int64) else 0) = 1 ∨ (if x ≤ y then (1 : Int64) else 0) = 0
      split
      · exact Or.inl rfl
      · exact Or.inr rfl
    · show (if y ≤ x then (1 : Int64) else 0) = 1 ∨ (if y ≤ x then (1 : Int64) else 0) = 0
      split
      · exact Or.inl rfl
      · exact Or.inr rfl
  rcases h01 with e | e <;> rw [e] <;> decide
theorem as_cm {w : Nat} (hw : isCmp w = true) : asW (cmM w) = w ∧ isO2 w := by
  have := of_decide_eq_true hw
  have : w = 28 ∨ w = 29 ∨ w = 30 ∨ w = 31 ∨ w = 39 ∨ w = 40 := by omega
  unfold isO2
  rcases this with rfl | rfl | rfl | rfl | rfl | rfl <;> decide
theorem sc_cmp {w : Nat} (hw : isCmp w = true) (A : SmE L a h) (C : SmE L c h) (h1 : 1 ≤ h) : SmC L (cC w a c) (h + 1) := by
  obtain ⟨w1, w2⟩ := as_cm hw
  obtain ⟨v1, v2⟩ := cm_v hw
  have w64 : w < 64 := by
    have := of_decide_eq_true hw
    omega
  obtain ⟨da, A⟩ := A
  obtain ⟨dc, C⟩ := C
  refine ⟨fun nm kp => decide (op2 w (da nm kp).toInt64 (dc nm kp).toInt64 = 1), fun nm kp ok => ?_⟩
  obtain ⟨a1, a2, a3⟩ := A nm kp ok
  obtain ⟨c1, c2, c3⟩ := C nm kp ok
  refine ⟨fun code e i S ha he hl => ?_, fun mo mv i V Z ha hV hZ => ?_⟩
  · obtain ⟨ha1, ha2⟩ := at_a (l := a.1 ++ c.1) (r := [w]) ha
    obtain ⟨ha3, ha4⟩ := at_a ha1
    have ex := at_1 ha2
    have el : (cC w a c).1.length = a.1.length + c.1.length + 1 := (cC_l w a c).1
    have el2 : (a.1 ++ c.1).length = a.1.length + c.1.length := List.length_append
    rw [el] at he ⊢
    rw [el2] at ex
    obtain ⟨s1, r1⟩ := a2 code e i S ha3 (by omega) (by omega)
    obtain ⟨s2, r2⟩ := c2 code e (i + a.1.length) (da nm kp :: S) ha4 (by omega) (by rw [List.length_cons]; omega)
    have em : code (i + (a.1.length + c.1.length)) % 64 = w := by
      rw [ex]
      omega
    have r3 : CRn code nm kp e 1 (i + (a.1.length + c.1.length)) (dc nm kp :: da nm kp :: S) (i + (a.1.length + c.1.length + 1)) (bo (decide (op2 w (da nm kp).toInt64 (dc nm kp).toInt64 = 1)) :: S) := by
      refine cr_1 (by omega) (by rw [List.length_cons, List.length_cons]; omega) ?_
      refine Or.inr (Or.inr (Or.inr (Or.inr (Or.inr (Or.inr (Or.inr ⟨by rw [em]; exact w2, by omega, _, _, S, rfl, ?_⟩))))))
      rw [em, op_01 hw]
    rw [show i + a.1.length + c.1.length = i + (a.1.length + c.1.length) by omega] at r2
    exact ⟨_, cr_t _ r1 (cr_t _ r2 r3)⟩
  · obtain ⟨ha1, ha2⟩ := ap_a (l := a.2 ++ c.2) (r := [(cmM w, 0)]) ha
    obtain ⟨ha3, ha4⟩ := ap_a ha1
    obtain ⟨ex, -⟩ := ap_1 ha2
    have el : (cC w a c).2.length = a.2.length + (c.2.length + 1) := by
      rw [(cC_l w a c).2]
      omega
    have el2 : (a.2 ++ c.2).length = a.2.length + c.2.length := List.length_append
    rw [el]
    rw [el2] at ex
    refine mr_t _ (a3 mo mv i V Z ha3 (by omega) (by omega)) (mr_t _ (c3 mo mv (i + a.2.length) (da nm kp :: V) Z ha4 (by rw [List.length_cons]; omega) (by omega)) (mr_1 (by rw [List.length_cons, List.length_cons]; omega) (by omega) ?_))
    rw [show i + a.2.length + c.2.length = i + (a.2.length + c.2.length) by omega]
    refine Or.inr (Or.inr (Or.inr (Or.inr (Or.inr (Or.inr (Or.inr (Or.inl ⟨by rw [ex]; exact ⟨v1, v2⟩, _, _, rfl, ?_⟩)))))))
    rw [ex, w1]
theorem sc_not (C : SmC L c h) (h1 : 1 ≤ h) : SmC L (cNt c) h := by
  obtain ⟨dc, C⟩ := C
  refine ⟨fun nm kp => !(dc nm kp), fun nm kp ok => ?_⟩
  obtain ⟨c2, c3⟩ := C nm kp ok
  refine ⟨fun code e i S ha he hl => ?_, fun mo mv i V Z ha hV hZ => ?_⟩
  · obtain ⟨ha1, ha2⟩ := at_a (l := c.1) (r := [27]) ha
    have ex := at_1 ha2
    rw [(cNt_l c).1] at he ⊢
    obtain ⟨s1, r1⟩ := c2 code e i S ha1 (by omega) hl
    have em : code (i + c.1.length) % 64 = 27 := by rw [ex]
    have eb : nI 1 - bo (dc nm kp) = bo (!(dc nm kp)) := by
      cases dc nm kp <;> decide
    exact ⟨_, cr_t _ r1 (cr_1 (by omega) (by rw [List.length_cons]; omega) (Or.inr (Or.inr (Or.inr (Or.inr (Or.inr (Or.inl ⟨em, by omega, _, S, rfl, by rw [eb]⟩)))))))⟩
  · obtain ⟨ha1, ha2⟩ := ap_a (l := c.2) (r := [(20, 0)]) ha
    obtain ⟨ex, -⟩ := ap_1 ha2
    rw [(cNt_l c).2]
    exact mr_t _ (c3 mo mv i V Z ha1 hV hZ) (mr_1 (by omega) (by rw [List.length_cons]; omega) (Or.inr (Or.inr (Or.inr (Or.inr (Or.inr (Or.inr (Or.inr (Or.inr (Or.inl ⟨ex, rfl, _, Z, rfl, rfl⟩))))))))))
theorem sc_j {w : Nat} (hw : w = 26 ∨ w = 25) (A : SmC L a h') (C : SmC L c h) (hh : h + 1 ≤ h') (h1 : 1 ≤ h) : SmC L (cJ w a c) h' := by
  obtain ⟨da, A⟩ := A
  obtain ⟨dc, C⟩ := C
  refine ⟨fun nm kp => if w = 26 then (da nm kp && dc nm kp) else (da nm kp || dc nm kp), fun nm kp ok => ?_⟩
  obtain ⟨a2, a3⟩ := A nm kp ok
  obtain ⟨c2, c3⟩ := C nm kp ok
  refine ⟨fun code e i S ha he hl => ?_, fun mo mv i V Z ha hV hZ => ?_⟩
  · obtain ⟨ha1, ha2⟩ := at_a (l := a.1 ++ c.1) (r := [w]) ha
    obtain ⟨ha3, ha4⟩ := at_a ha1
    have ex := at_1 ha2
    have el : (cJ w a c).1.length = a.1.length + c.1.length + 1 := (cJ_l w a c).1
    have el2 : (a.1 ++ c.1).length = a.1.length + c.1.length := List.length_append
    rw [el] at he ⊢
    rw [el2] at ex
    obtain ⟨s1, r1⟩ := a2 code e i S ha3 (by omega) (by omega)
    obtain ⟨s2, r2⟩ := c2 code e (i + a.1.length) (bo (da nm kp) :: S) ha4 (by omega) (by rw [List.length_cons]; omega)
    have em : code (i + (a.1.length + c.1.length)) % 64 = w := by
      rw [ex]
      omega
    have w2 : isO2 w := by
      unfold isO2
      omega
    have eb : cutI (op2 w (bo (da nm kp)).toInt64 (bo (dc nm kp)).toInt64) = bo (if w = 26 then (da nm kp && dc nm kp) else (da nm kp || dc nm kp)) := by
      rcases hw with rfl | rfl <;> cases da nm kp <;> cases dc nm kp <;> decide
    have r3 : CRn code nm kp e 1 (i + (a.1.length + c.1.length)) (bo (dc nm kp) :: bo (da nm kp) :: S) (i + (a.1.length + c.1.length + 1)) (bo (if w = 26 then (da nm kp && dc nm kp) else (da nm kp || dc nm kp)) :: S) := by
      refine cr_1 (by omega) (by rw [List.length_cons, List.length_cons]; omega) ?_
      refine Or.inr (Or.inr (Or.inr (Or.inr (Or.inr (Or.inr (Or.inr ⟨by rw [em]; exact w2, by omega, _, _, S, rfl, ?_⟩))))))
      rw [em, eb]
    rw [show i + a.1.length + c.1.length = i + (a.1.length + c.1.length) by omega] at r2
    exact ⟨_, cr_t _ r1 (cr_t _ r2 r3)⟩
  · obtain ⟨ha1, ha2⟩ := ap_a (l := a.2 ++ c.2) (r := [(if w = 26 then 21 else 22, 0)]) ha
    obtain ⟨ha3, ha4⟩ := ap_a ha1
    obtain ⟨ex, -⟩ := ap_1 ha2
    have el : (cJ w a c).2.length = a.2.length + (c.2.length + 1) := by
      rw [(cJ_l w a c).2]
      omega
    have el2 : (a.2 ++ c.2).length = a.2.length + c.2.length := List.length_append
    rw [el]
    rw [el2] at ex
    refine mr_t _ (a3 mo mv i V Z ha3 (by omega) (by omega)) (mr_t _ (c3 mo mv (i + a.2.length) V (da nm kp :: Z) ha4 (by omega) (by rw [List.length_cons]; omega)) (mr_1 (by omega) (by rw [List.length_cons, List.length_cons]; omega) ?_))
    rw [show i + a.2.length + c.2.length = i + (a.2.length + c.2.length) by omega]
    refine Or.inr (Or.inr (Or.inr (Or.inr (Or.inr (Or.inr (Or.inr (Or.inr (Or.inr ⟨?_, rfl, _, _, Z, rfl, ?_⟩))))))))
    · rw [ex]
      split
      · exact Or.inl rfl
      · exact Or.inr rfl
    · rw [ex]
      rcases hw with rfl | rfl <;> rfl
theorem se_if (C : SmC L c h) (A : SmE L a h) (E : SmE L e h) (h1 : 1 ≤ h) : SmE L (cIf c a e) (h + 1) := by
  obtain ⟨dc, C⟩ := C
  obtain ⟨da, A⟩ := A
  obtain ⟨de, E⟩ := E
  refine ⟨fun nm kp => if dc nm kp = true then da nm kp else de nm kp, fun nm kp ok => ?_⟩
  obtain ⟨c2, c3⟩ := C nm kp ok
  obtain ⟨a1, a2, a3⟩ := A nm kp ok
  obtain ⟨e1, e2, e3⟩ := E nm kp ok
  refine ⟨?_, fun code f i S ha he hl => ?_, fun mo mv i V Z ha hV hZ => ?_⟩
  · show bd (if dc nm kp = true then da nm kp else de nm kp)
    split
    · exact a1
    · exact e1
  · obtain ⟨ha1, ha2⟩ := at_a (l := c.1 ++ [46 + (a.1.length + 1) * 64] ++ a.1 ++ [45 + e.1.length * 64]) (r := e.1) ha
    obtain ⟨ha3, ha4⟩ := at_a ha1
    obtain ⟨ha5, ha6⟩ := at_a ha3
    obtain ⟨ha7, ha8⟩ := at_a ha5
    have x1 := at_1 ha8
    have x2 := at_1 ha4
    simp only [List.length_append, List.length_cons, List.length_nil, Nat.zero_add] at x2 ha2 ha6
    rw [(cIf_l c a e).1] at he ⊢
    obtain ⟨s1, r1⟩ := c2 code f i S ha7 (by omega) (by omega)
    have em1 : code (i + c.1.length) % 64 = 46 := by rw [x1]; omega
    have ed1 : code (i + c.1.length) / 64 = a.1.length + 1 := by rw [x1]; omega
    have em2 : code (i + (c.1.length + 1 + a.1.length)) % 64 = 45 := by rw [x2]; omega
    have ed2 : code (i + (c.1.length + 1 + a.1.length)) / 64 = e.1.length := by rw [x2]; omega
    cases ed : dc nm kp with
    | true =>
      rw [ed] at r1
      obtain ⟨s2, r2⟩ := a2 code f (i + (c.1.length + 1)) S ha6 (by omega) (by omega)
      have r3 : CRn code nm kp f 1 (i + c.1.length) (bo true :: S) (i + (c.1.length + 1)) S := cr_1 (by omega) (by rw [List.length_cons]; omega) (Or.inr (Or.inr (Or.inr (Or.inl ⟨em1, bo true, rfl, by rw [if_neg (show ¬ bo true = nI 0 by decide)]; omega⟩))))
      have r4 : CRn code nm kp f 1 (i + (c.1.length + 1 + a.1.length)) (da nm kp :: S) (i + (c.1.length + a.1.length + e.1.length + 2)) (da nm kp :: S) := cr_1 (by omega) (by rw [List.length_cons]; omega) (Or.inr (Or.inr (Or.inl ⟨em2, by rw [ed2]; omega, rfl⟩)))
      rw [show i + (c.1.length + 1) + a.1.length = i + (c.1.length + 1 + a.1.length) by omega] at r2
      show ∃ s, CRn code nm kp f s i S (i + (c.1.length + a.1.length + e.1.length + 2)) ((if dc nm kp = true then da nm kp else de nm kp) :: S)
      rw [ed, if_pos rfl]
      exact ⟨_, cr_t _ r1 (cr_t _ r3 (cr_t _ r2 r4))⟩
    | false =>
      rw [ed] at r1
      obtain ⟨s2, r2⟩ := e2 code f (i + (c.1.length + 1 + a.1.length + 1)) S ha2 (by omega) (by omega)
      have r3 : CRn code nm kp f 1 (i + c.1.length) (bo false :: S) (i + (c.1.length + 1 + a.1.length + 1)) S := cr_1 (by omega) (by rw [List.length_cons]; omega) (Or.inr (Or.inr (Or.inr (Or.inl ⟨em1, bo false, rfl, by rw [if_pos (show bo false = nI 0 by decide), ed1]; omega⟩))))
      rw [show i + (c.1.length + 1 + a.1.length + 1) + e.1.length = i + (c.1.length + a.1.length + e.1.length + 2) by omega] at r2
      show ∃ s, CRn code nm kp f s i S (i + (c.1.length + a.1.length + e.1.length + 2)) ((if dc nm kp = true then da nm kp else de nm kp) :: S)
      rw [ed, if_neg ffN]
      exact ⟨_, cr_t _ r1 (cr_t _ r3 r2)⟩
  · obtain ⟨ha1, ha2⟩ := ap_a (l := c.2 ++ a.2 ++ e.2) (r := [(3, 0)]) ha
    obtain ⟨ha3, ha4⟩ := ap_a ha1
    obtain ⟨ha5, ha6⟩ := ap_a ha3
    obtain ⟨ex, -⟩ := ap_1 ha2
    simp only [List.length_append] at ex ha4
    have el : (cIf c a e).2.length = c.2.length + (a.2.length + (e.2.length + 1)) := by
      rw [(cIf_l c a e).2]
      omega
    rw [el]
    rw [← Nat.add_assoc] at ha4
    refine mr_t _ (c3 mo mv i V Z ha5 (by omega) (by omega)) (mr_t _ (a3 mo mv (i + c.2.length) V (dc nm kp :: Z) ha6 (by omega) (by rw [List.length_cons]; omega)) (mr_t _ (e3 mo mv (i + c.2.length + a.2.length) (da nm kp :: V) (dc nm kp :: Z) ha4 (by rw [List.length_cons]; omega) (by rw [List.length_cons]; omega)) (mr_1 (by rw [List.length_cons, List.length_cons]; omega) (by rw [List.length_cons]; omega) ?_)))
    refine Or.inr (Or.inr (Or.inl ⟨?_, _, _, V, dc nm kp, rfl, rfl, rfl⟩))
    rw [← ex]
    congr 1
    omega
/-- codes are small -/
def SzR (b : Nat → Nat) (n : Nat) (r : Nat → Rs) : Prop := ∀ p, p ≤ n → ∀ c p', r p = .inr (c, p') → (∀ x, x ∈ c.1 → x < 2 ^ 20) ∧ ∀ x, x ∈ c.2 → x.1 < 2 ^ 20
def PE (b : Nat → Nat) (n L : Nat) (r : Nat → Rs) (h : Nat) : Prop := ∀ p, p ≤ n → ∀ c p', r p = .inr (c, p') → SmE L c h ∧ (∀ x, x ∈ c.1 → x < 2 ^ 20) ∧ ∀ x, x ∈ c.2 → x.1 < 2 ^ 20
def PC (b : Nat → Nat) (n L : Nat) (r : Nat → Rs) (h : Nat) : Prop := ∀ p, p ≤ n → ∀ c p', r p = .inr (c, p') → SmC L c h ∧ (∀ x, x ∈ c.1 → x < 2 ^ 20) ∧ ∀ x, x ∈ c.2 → x.1 < 2 ^ 20
def Sz (c : Cd) : Prop := (∀ x, x ∈ c.1 → x < 2 ^ 20) ∧ ∀ x, x ∈ c.2 → x.1 < 2 ^ 20
theorem sz_2 {x y z : Nat} (A : Sz a) (C : Sz c) (hx : x < 2 ^ 20) (hy : y < 2 ^ 20) : Sz (a.1 ++ c.1 ++ [x], a.2 ++ c.2 ++ [(y, z)]) := by
  refine ⟨fun u hu => ?_, fun u hu => ?_⟩
  · rcases List.mem_append.mp hu with hu | hu
    · rcases List.mem_append.mp hu with hu | hu
      · exact A.1 u hu
      · exact C.1 u hu
    · rcases List.mem_cons.mp hu with e | e
      · rw [e]; exact hx
      · cases e
  · rcases List.mem_append.mp hu with hu | hu
    · rcases List.mem_append.mp hu with hu | hu
      · exact A.2 u hu
      · exact C.2 u hu
    · rcases List.mem_cons.mp hu with e | e
      · rw [e]; exact hy
      · cases e
theorem sz_1 {x y z : Nat} (C : Sz c) (hx : x < 2 ^ 20) (hy : y < 2 ^ 20) : Sz (c.1 ++ [x], c.2 ++ [(y, z)]) := by
  have := sz_2 (a := ([], [])) (z := z) ⟨fun u hu => (by cases hu), fun u hu => (by cases hu)⟩ C hx hy
  exact this
theorem sz_if (C : Sz c) (A : Sz a) (E : Sz e) (la : a.1.length ≤ 300) (le : e.1.length ≤ 300) : Sz (cIf c a e) := by
  unfold cIf
  refine ⟨fun u hu => ?_, fun u hu => ?_⟩
  · rcases List.mem_append.mp hu with hu | hu
    · rcases List.mem_append.mp hu with hu | hu
      · rcases List.mem_append.mp hu with hu | hu
        · rcases List.mem_append.mp hu with hu | hu
          · exact C.1 u hu
          · rcases List.mem_cons.mp hu with q | q
            · rw [q]; omega
            · cases q
        · exact A.1 u hu
      · rcases List.mem_cons.mp hu with q | q
        · rw [q]; omega
        · cases q
    · exact E.1 u hu
  · rcases List.mem_append.mp hu with hu | hu
    · rcases List.mem_append.mp hu with hu | hu
      · rcases List.mem_append.mp hu with hu | hu
        · exact C.2 u hu
        · exact A.2 u hu
      · exact E.2 u hu
    · rcases List.mem_cons.mp hu with q | q
      · rw [q]; decide
      · cases q
end Sem2
section Sem3
variable {b : Nat → Nat} {n L : Nat}
theorem pe_lp {iso : Nat → Bool} {sub : Nat → Rs} {h : Nat} (hi : ∀ k, iso k = true → k = 32 ∨ k = 33 ∨ k = 34 ∨ k = 35) (h1 : 1 ≤ h) (hs : PE b n L sub h) (ln : LnR b n sub) : ∀ m c p, p ≤ n → SmE L c (h + 1) → Sz c → ∀ c' p', lpO b n iso cB sub m c p = .inr (c', p') → SmE L c' (h + 1) ∧ Sz c'
  | 0, c, p, hp, hc, hz, c', p', e => by
    rw [lpO] at e
    rw [← (inr_i e).1]
    exact ⟨hc, hz⟩
  | m + 1, c, p, hp, hc, hz, c', p', e => by
    rw [lpO] at e
    by_cases ck : iso (tK b n p) = true
    · rw [if_pos ck] at e
      have hk := hi _ ck
      obtain ⟨tk1, -⟩ := tk_st hp (show tK b n p ≠ 42 by omega)
      obtain ⟨c2, p2, e1, e2⟩ := bnd_i e
      obtain ⟨l1, -, -⟩ := ln _ tk1 c2 p2 e1
      obtain ⟨s1, s2⟩ := hs _ tk1 c2 p2 e1
      refine pe_lp hi h1 hs ln m _ p2 l1 ?_ ?_ c' p' e2
      · exact se_2 (by unfold isO2; omega) (by omega) (Or.inr ⟨by omega, by omega⟩) hc s1 (Nat.le_refl _) h1
      · exact sz_2 hz s2 (by omega) (by omega)
    · rw [if_neg ck] at e
      rw [← (inr_i e).1]
      exact ⟨hc, hz⟩
theorem pe_prd {one : Nat → Rs} {h : Nat} (h1 : 1 ≤ h) (H : PE b n L one h) (ln : LnR b n one) : PE b n L (prd b n one) (h + 1) := fun p hp c p' e => by
  obtain ⟨c1, p1, e1, e2⟩ := bnd_i e
  obtain ⟨s1, s2⟩ := H p hp c1 p1 e1
  obtain ⟨l1, -, -⟩ := ln p hp c1 p1 e1
  exact pe_lp (fun k q => by have := of_decide_eq_true q; omega) h1 H ln 300 c1 p1 l1 (se_m s1 (by omega)) s2 c p' e2
theorem pe_smr {one : Nat → Rs} {h : Nat} (h1 : 1 ≤ h) (H : PE b n L one h) (ln : LnR b n one) : PE b n L (smr b n one) (h + 2) := fun p hp c p' e => by
  obtain ⟨c1, p1, e1, e2⟩ := bnd_i e
  obtain ⟨s1, s2⟩ := pe_prd h1 H ln p hp c1 p1 e1
  obtain ⟨l1, -, -⟩ := ln_prd ln p hp c1 p1 e1
  exact pe_lp (fun k q => by have := of_decide_eq_true q; omega) (by omega) (pe_prd h1 H ln) (ln_prd ln) 300 c1 p1 l1 (se_m s1 (by omega)) s2 c p' e2
theorem pc_lp {w : Nat} {sub : Nat → Rs} {h : Nat} (hw : w = 26 ∨ w = 25) (h1 : 1 ≤ h) (hs : PC b n L sub h) (ln : LnR b n sub) : ∀ m c p, p ≤ n → SmC L c (h + 1) → Sz c → ∀ c' p', lpO b n (fun k => decide (k = w)) cJ sub m c p = .inr (c', p') → SmC L c' (h + 1) ∧ Sz c'
  | 0, c, p, hp, hc, hz, c', p', e => by
    rw [lpO] at e
    rw [← (inr_i e).1]
    exact ⟨hc, hz⟩
  | m + 1, c, p, hp, hc, hz, c', p', e => by
    rw [lpO] at e
    by_cases ck : decide (tK b n p = w) = true
    · rw [if_pos ck] at e
      have hk := of_decide_eq_true ck
      obtain ⟨tk1, -⟩ := tk_st hp (show tK b n p ≠ 42 by omega)
      obtain ⟨c2, p2, e1, e2⟩ := bnd_i e
      obtain ⟨l1, -, -⟩ := ln _ tk1 c2 p2 e1
      obtain ⟨s1, s2⟩ := hs _ tk1 c2 p2 e1
      refine pc_lp hw h1 hs ln m _ p2 l1 ?_ ?_ c' p' e2
      · exact sc_j (by omega) hc s1 (Nat.le_refl _) h1
      · exact sz_2 hz s2 (by omega) (by split <;> decide)
    · rw [if_neg ck] at e
      rw [← (inr_i e).1]
      exact ⟨hc, hz⟩
theorem pc_bth {ask : Nat → Rs} {h : Nat} (h1 : 1 ≤ h) (H : PC b n L ask h) (ln : LnR b n ask) : PC b n L (bth b n ask) (h + 1) := fun p hp c p' e => by
  obtain ⟨c1, p1, e1, e2⟩ := bnd_i e
  obtain ⟨s1, s2⟩ := H p hp c1 p1 e1
  obtain ⟨l1, -, -⟩ := ln p hp c1 p1 e1
  exact pc_lp (Or.inl rfl) h1 H ln 300 c1 p1 l1 (sc_m s1 (by omega)) s2 c p' e2
theorem pc_eth {ask : Nat → Rs} {h : Nat} (h1 : 1 ≤ h) (H : PC b n L ask h) (ln : LnR b n ask) : PC b n L (eth b n ask) (h + 2) := fun p hp c p' e => by
  obtain ⟨c1, p1, e1, e2⟩ := bnd_i e
  obtain ⟨s1, s2⟩ := pc_bth h1 H ln p hp c1 p1 e1
  obtain ⟨l1, -, -⟩ := ln_bth ln p hp c1 p1 e1
  exact pc_lp (Or.inr rfl) (by omega) (pc_bth h1 H ln) (ln_bth ln) 300 c1 p1 l1 (sc_m s1 (by omega)) s2 c p' e2
theorem pc_ask {one nt : Nat → Rs} {h : Nat} (h1 : 1 ≤ h) (H : PE b n L one h) (ln : LnR b n one) (hn : ∀ p, p ≤ n → tK b n p = 27 → ∀ c p', nt p = .inr (c, p') → SmC L c (h + 3) ∧ Sz c) : PC b n L (askS b n one nt) (h + 3) := fun p hp c p' e => by
  unfold askS at e
  by_cases c0 : tK b n p = 27
  · rw [if_pos c0] at e
    exact hn p hp c0 c p' e
  · rw [if_neg c0] at e
    obtain ⟨c1, p1, e1, e2⟩ := bnd_i e
    obtain ⟨s1, s2⟩ := pe_smr h1 H ln p hp c1 p1 e1
    obtain ⟨l1, -, -⟩ := ln_smr ln p hp c1 p1 e1
    by_cases cc : isCmp (tK b n p1) = true
    · rw [if_pos cc] at e2
      have cc' := of_decide_eq_true cc
      obtain ⟨v1, v2⟩ := cm_v cc
      obtain ⟨tk1, -⟩ := tk_st l1 (show tK b n p1 ≠ 42 by omega)
      obtain ⟨c2, p2, e3, e4⟩ := bnd_i e2
      obtain ⟨s3, s4⟩ := pe_smr h1 H ln _ tk1 c2 p2 e3
      rw [← (inr_i e4).1]
      exact ⟨sc_cmp cc s1 s3 (by omega), sz_2 s2 s4 (by omega) (by omega)⟩
    · rw [if_neg cc] at e2
      cases e2
theorem pe_one {opn : Nat → Rs} {h : Nat} (h1 : 1 ≤ h) (hL : L < 2) (ho : ∀ p, p ≤ n → tK b n p ≠ 42 → ∀ c p', opn p = .inr (c, p') → SmE L c h ∧ Sz c) : PE b n L (oneS b n L opn) h := fun p hp c p' e => by
  unfold oneS at e
  by_cases c1 : tK b n p = 41
  · rw [if_pos c1] at e
    by_cases c2 : tV b n p ≤ 9999
    · rw [if_pos c2] at e
      rw [← (inr_i e).1]
      refine ⟨se_m (se_num c2) h1, fun x hx => ?_, fun x hx => ?_⟩
      · rcases List.mem_cons.mp hx with q | q
        · rw [q]; omega
        · cases q
      · rcases List.mem_cons.mp hx with q | q
        · rw [q]
          show (0 : Nat) < 2 ^ 20
          decide
        · cases q
    · rw [if_neg c2] at e
      cases e
  · rw [if_neg c1] at e
    by_cases c2 : 7 ≤ tK b n p ∧ tK b n p ≤ 15
    · rw [if_pos c2] at e
      by_cases c3 : (L = 0 ∧ (tK b n p = 14 ∨ tK b n p = 15)) ∨ (L = 1 ∧ tK b n p = 13)
      · rw [if_pos c3] at e
        cases e
      · rw [if_neg c3] at e
        rw [← (inr_i e).1]
        obtain ⟨w1, w2, w3⟩ := kw_9 c2
        refine ⟨se_m (se_nam c2 (by unfold okN; omega)) h1, fun x hx => ?_, fun x hx => ?_⟩
        · rcases List.mem_cons.mp hx with q | q
          · rw [q]; omega
          · cases q
        · rcases List.mem_cons.mp hx with q | q
          · rw [q]
            show (1 : Nat) < 2 ^ 20
            decide
          · cases q
    · rw [if_neg c2] at e
      by_cases c3 : tK b n p = 36 ∨ tK b n p = 33 ∨ tK b n p = 19 ∨ tK b n p = 20 ∨ tK b n p = 21
      · rw [if_pos c3] at e
        exact ho p hp (by omega) c p' e
      · rw [if_neg c3] at e
        cases e
theorem pe_op {one ask : Nat → Rs} {h : Nat} (n3 : n ≤ 300) (h1 : 1 ≤ h) (H : PE b n L one h) (HA : PC b n L ask (h + 3)) (l1 : LnR b n one) (l2 : LnR b n ask) : ∀ p, p ≤ n → tK b n p ≠ 42 → ∀ c p', opnS b n one ask p = .inr (c, p') → SmE L c (h + 6) ∧ Sz c := fun p hp k42 c p' e => by
  obtain ⟨t1, t2⟩ := tk_st hp k42
  unfold opnS at e
  split at e
  · obtain ⟨c1, p1, e1, e2⟩ := bnd_i e
    obtain ⟨s1, s2⟩ := pe_smr h1 H l1 _ t1 c1 p1 e1
    obtain ⟨a1, -, -⟩ := ln_smr l1 _ t1 c1 p1 e1
    obtain ⟨x1, -, -, -⟩ := ln_x a1 (by decide) e2
    rw [x1]
    exact ⟨se_m s1 (by omega), s2⟩
  · split at e
    · unfold chc at e
      obtain ⟨c1, p1, e1, g1⟩ := bnd_i e
      obtain ⟨a1, -, -⟩ := ln_eth l2 _ t1 c1 p1 e1
      obtain ⟨s1, s2⟩ := pc_eth (by omega) HA l2 _ t1 c1 p1 e1
      obtain ⟨c2, p2, e2, g2⟩ := bnd_i g1
      obtain ⟨x0, -, x3, x4⟩ := ln_x a1 (by decide) e2
      obtain ⟨c3, p3, e3, g3⟩ := bnd_i g2
      obtain ⟨b1, b2, -⟩ := ln_smr l1 _ x3 c3 p3 e3
      obtain ⟨s3, s4⟩ := pe_smr h1 H l1 _ x3 c3 p3 e3
      obtain ⟨c4, p4, e4, g4⟩ := bnd_i g3
      obtain ⟨y0, -, y3, y4⟩ := ln_x b1 (by decide) e4
      obtain ⟨c5, p5, e5, g5⟩ := bnd_i g4
      obtain ⟨d1, d2, -⟩ := ln_smr l1 _ y3 c5 p5 e5
      obtain ⟨s5, s6⟩ := pe_smr h1 H l1 _ y3 c5 p5 e5
      obtain ⟨c6, p6, e6, g6⟩ := bnd_i g5
      obtain ⟨z0, -, z3, z4⟩ := ln_x d1 (by decide) e6
      have i1 := (tS_le (b := b) b1).2
      have i2 := (tS_le (b := b) d1).2
      rw [← (inr_i g6).1, x0, y0, z0]
      exact ⟨se_if (h := h + 5) (sc_m s1 (by omega)) (se_m s3 (by omega)) (se_m s5 (by omega)) (by omega), sz_if s2 s4 s6 (by omega) (by omega)⟩
    · split at e
      · obtain ⟨c1, p1, e1, g1⟩ := bnd_i e
        obtain ⟨a1, -, -⟩ := l1 _ t1 c1 p1 e1
        obtain ⟨s1, s2⟩ := H _ t1 c1 p1 e1
        obtain ⟨c2, p2, e2, g2⟩ := bnd_i g1
        obtain ⟨x0, -, x3, x4⟩ := ln_x a1 (by decide) e2
        obtain ⟨c3, p3, e3, g3⟩ := bnd_i g2
        obtain ⟨s3, s4⟩ := H _ x3 c3 p3 e3
        rw [← (inr_i g3).1, x0]
        exact ⟨se_m (se_2 (o := 4) (x := 19) (by unfold isO2; omega) (by decide) (Or.inl ⟨rfl, rfl⟩) (se_m s1 (show h ≤ h + 1 by omega)) s3 (Nat.le_refl _) h1) (by omega), sz_2 s2 s4 (by decide) (by decide)⟩
      · obtain ⟨c1, p1, e1, g1⟩ := bnd_i e
        obtain ⟨s1, s2⟩ := H _ t1 c1 p1 e1
        rw [← (inr_i g1).1]
        unfold cU
        split
        · exact ⟨se_m (se_neg s1 h1) (by omega), sz_1 s2 (by decide) (by decide)⟩
        · exact ⟨se_m (se_kep s1 h1) (by omega), sz_1 s2 (by decide) (by decide)⟩
theorem pe_lv (n3 : n ≤ 300) (hL : L < 2) : ∀ D, PE b n L (lv1 b n L D).1 (6 * D + 1) ∧ PC b n L (lv1 b n L D).2 (6 * D + 1 + 3)
  | 0 => by
    have h1 : PE b n L (lv1 b n L 0).1 (6 * 0 + 1) := pe_one (by decide) hL (fun p hp _ c p' e => by cases e)
    exact ⟨h1, pc_ask (by decide) h1 (ln_lv 0).1 (fun p hp _ c p' e => by cases e)⟩
  | D + 1 => by
    obtain ⟨i1, i2⟩ := pe_lv n3 hL D
    have h1 : PE b n L (lv1 b n L (D + 1)).1 (6 * (D + 1) + 1) := by
      rw [show 6 * (D + 1) + 1 = 6 * D + 1 + 6 by omega]
      exact pe_one (by omega) hL (pe_op n3 (by omega) i1 i2 (ln_lv D).1 (ln_lv D).2)
    refine ⟨h1, pc_ask (by omega) h1 (ln_lv (D + 1)).1 (fun p hp hK c p' e => ?_)⟩
    obtain ⟨tk1, -⟩ := tk_st hp (show tK b n p ≠ 42 by omega)
    obtain ⟨c1, p1, e1, g1⟩ := bnd_i e
    obtain ⟨s1, s2⟩ := i2 _ tk1 c1 p1 e1
    rw [← (inr_i g1).1]
    exact ⟨sc_m (sc_not s1 (by omega)) (by omega), sz_1 s2 (by decide) (by decide)⟩
theorem pe_sum (n3 : n ≤ 300) (hL : L < 2) : PE b n L (smr b n (lv1 b n L 8).1) 51 := pe_smr (by decide) (pe_lv n3 hL 8).1 (ln_lv 8).1
end Sem3
