/-! years of draws -/
def tnB (f : (Nat → Nat) → Nat → Nat → Int32) (A : Nat → Nat) (e h r s : Nat) : Nat → Nat := if e ≤ 1 then (if canB f (drA A) h r = true then tlA (drA A) h r else drA A) else if e = 2 then fgA (drA A) h r else if A (28 + r) + s ≤ 9999 then upA (drA A) (28 + r) (A (28 + r) + s) else drA A
def tnA (f : (Nat → Nat) → Nat → Nat → Int32) (g : (Nat → Nat) → Nat → Nat → Nat) (A : Nat → Nat) : Nat → Nat := if A 9 % 6 < 4 then (if A 1 = 0 then drA A else tnB f A (A 9 % 6) (A 9 / 6 % 8) (A 9 % A 1) (1 + A 9 / 6 % 9)) else if A 8 < 9999 then psA tlA f g (drA A) else drA A
theorem dr_o {A : Nat → Nat} {k : Nat} (h : k ≠ 9) : drA A k = A k := upA_n h
theorem tnB_inv {f : (Nat → Nat) → Nat → Nat → Int32} {A : Nat → Nat} {e h r s : Nat} (w : Wf A) (hh : h < 8) (hr : r < A 1) : Wf (tnB f A e h r s) ∧ ∀ k, k < 8 ∨ (32 ≤ k ∧ k < 1769) → tnB f A e h r s k = A k := by
  have w1 : A 1 ≤ 4 := w.1.2.1
  have d1 : drA A 1 = A 1 := dr_o (by omega)
  have dk : ∀ k, k < 8 ∨ (32 ≤ k ∧ k < 1769) → drA A k = A k := fun k hk => dr_o (by omega)
  unfold tnB
  split
  · split
    · exact ⟨tl_W (dr_W w) hh (by omega), fun k hk => (tl_o (by omega)).trans (dk k hk)⟩
    · exact ⟨dr_W w, dk⟩
  · split
    · exact ⟨fg_W (dr_W w) hh (by omega), fun k hk => (upA_n (by omega)).trans (dk k hk)⟩
    · split
      · next hs => exact ⟨pu_W (dr_W w) (by omega) hs, fun k hk => (upA_n (by omega)).trans (dk k hk)⟩
      · exact ⟨dr_W w, dk⟩
theorem tn_inv {f : (Nat → Nat) → Nat → Nat → Int32} {g : (Nat → Nat) → Nat → Nat → Nat} {A : Nat → Nat} (hg : gB g) (w : Wf A) : Wf (tnA f g A) ∧ ∀ k, k < 8 ∨ (32 ≤ k ∧ k < 1769) → tnA f g A k = A k := by
  have dk : ∀ k, k < 8 ∨ (32 ≤ k ∧ k < 1769) → drA A k = A k := fun k hk => dr_o (by omega)
  unfold tnA
  split
  · split
    · exact ⟨dr_W w, dk⟩
    · next h => exact tnB_inv w (Nat.mod_lt _ (by decide)) (Nat.mod_lt _ (by omega))
  · split
    · next h =>
      obtain ⟨h1, h2, h3, h4⟩ := ps_inv (f := f) tlK_1 hg (dr_W w) (by rw [dr_o (by omega)]; exact h)
      exact ⟨h1, fun k hk => (h2 k hk).trans (dk k hk)⟩
    · exact ⟨dr_W w, dk⟩
def tnN (f : (Nat → Nat) → Nat → Nat → Int32) (g : (Nat → Nat) → Nat → Nat → Nat) (A : Nat → Nat) : Nat → Nat → Nat
  | 0 => A
  | j + 1 => tnA f g (tnN f g A j)
theorem tnN_inv {f : (Nat → Nat) → Nat → Nat → Int32} {g : (Nat → Nat) → Nat → Nat → Nat} {A : Nat → Nat} (hg : gB g) (w : Wf A) : ∀ j, Wf (tnN f g A j) ∧ ∀ k, k < 8 ∨ (32 ≤ k ∧ k < 1769) → tnN f g A j k = A k
  | 0 => ⟨w, fun _ _ => rfl⟩
  | j + 1 => by
    obtain ⟨h1, h2⟩ := tnN_inv (f := f) hg w j
    obtain ⟨h3, h4⟩ := tn_inv (f := f) hg h1
    exact ⟨h3, fun k hk => (h4 k hk).trans (h2 k hk)⟩
theorem up9_W {A : Nat → Nat} {v : Nat} (w : Wf A) (hv : v < 30881) : Wf (upA A 9 v) := by
  have wA := w
  obtain ⟨A', eA⟩ : ∃ X, X = upA A 9 v := ⟨_, rfl⟩
  have fA : ∀ k, k ≠ 9 → A' k = A k := fun k hk => by rw [eA]; exact upA_n hk
  rw [← eA]
  refine ⟨?_, (Wf2_c (fun k hk => fA k (by omega)) wA.2.1), (Wf3_c (fun k hk => fA k (by omega)) wA.1.1 wA.2.2.1), (Wf4_c (fun k hk => fA k (by omega)) wA.1 wA.2.2.2.1), (Wf5_c (fun k hk => fA k (by omega)) wA.1.2.2.2.2.1 wA.2.2.2.2)⟩
  obtain ⟨v0, v1, v2, v3, v4, v5, v6, v7, v8, v9, v10, v11⟩ := w.1
  unfold Wf1
  rw [fA 0 (by omega), fA 1 (by omega), fA 2 (by omega), fA 3 (by omega), fA 4 (by omega), fA 5 (by omega), fA 6 (by omega), fA 7 (by omega), fA 8 (by omega), fA 10 (by omega), fA 11 (by omega), show A' 9 = v by rw [eA, upA_s]]
  exact ⟨v0, v1, v2, v3, v4, v5, v6, v7, v8, hv, v10, v11⟩
theorem up9_T {I : Nat → Nat → Int32} {A : Nat → Nat} {v : Nat} (w : Wf A) (t : Twn I 1 2 3 4 5 6 7 8 9 A) : Twn (uI I 1 12 (nI v)) 1 2 3 4 5 6 7 8 9 (upA A 9 v) := by
  have w0 : A 0 ≤ 12 := w.1.1
  have w1 : A 1 ≤ 4 := w.1.2.1
  have fI : ∀ c k, c ≠ 1 ∨ k ≠ 12 → uI I 1 12 (nI v) c k = I c k := fun c k hk => uI_n hk
  have fA : ∀ k, k ≠ 9 → upA A 9 v k = A k := fun k hk => upA_n hk
  have f1 : upA A 9 v 1 = A 1 := fA 1 (by omega)
  refine ⟨(fun h hh => by rw [fI _ _ (by omega), fA _ (by omega)]; exact tw_rooms t hh), (fun h hh => by rw [fI _ _ (by omega), fA _ (by omega)]; exact tw_income t hh), (fun h hh => by rw [fI _ _ (by omega), bes_c (fun k hk => fA k (by omega)) w0]; exact tw_beside t hh), (fun r hr => by rw [f1] at hr; rw [fI _ _ (by omega), fA _ (by omega)]; exact tw_truth t hr), (fun r hr => by rw [f1] at hr; rw [fI _ _ (by omega), fA _ (by omega)]; exact tw_purse t hr), (fun r hr => by rw [f1] at hr; rw [fI _ _ (by omega), fA _ (by omega)]; exact tw_told t hr), (fun r hr => by rw [f1] at hr; rw [fI _ _ (by omega), kpr_c (fun h hh => fA _ (by omega))]; exact tw_keepers t hr), (fun h hh => by rw [fI _ _ (by omega), fA _ (by omega)]; exact tw_pages t hh), (by rw [fI _ _ (by omega), fA _ (by omega)]; exact tw_written t), (by rw [fI _ _ (by omega), fA _ (by omega)]; exact tw_roads t), (by rw [fI _ _ (by omega), fA _ (by omega)]; exact tw_rumours t), (by rw [fI _ _ (by omega), fA _ (by omega)]; exact tw_day t), ?_, (by rw [fI _ _ (by omega), fA _ (by omega)]; exact tw_paid t), (by rw [fI _ _ (by omega), fA _ (by omega)]; exact tw_texts t), (by rw [fI _ _ (by omega), fA _ (by omega)]; exact tw_ruling t)⟩
  rw [uI_s, upA_s]
theorem c2_lw {tx : Nat} : c2L (some (LwC tx)) = false := by
  rcases lw_or tx with ⟨a, e⟩ | e <;> rw [e] <;> rfl

theorem c2_00 : c2L (some .null) = false := rfl
section Years
variable {sc : Sc} {d : Nat} {T : Option Nat} {M : Nat → Nat → Int32} {f : (Nat → Nat) → Nat → Nat → Int32} {g : (Nat → Nat) → Nat → Nat → Nat} {tx : Nat}
theorem sp_turnC {I : Nat → Nat → Int32} {J : Nat → Nat → Int64} {A : Nat → Nat} (hF : BelC M tx f) (hC : RntC M tx g) (hg : gB g) (w : Wf A) (t : Twn I 1 2 3 4 5 6 7 8 9 A) (eM : txI I = M) : ∃ I', (∀ c k, c ≠ 69 ∧ c ≠ 70 ∧ (c < 1 ∨ 9 < c) → I' c k = I c k) ∧ Twn I' 1 2 3 4 5 6 7 8 9 (tnA f g A) ∧ ∀ Q, Rn sc (d + 7) 4 0 [some (.ref 71), some (.ref 1), some (LwC tx), none, none, none, none, none] [] (K0, I, J, R1 T) Q = Q none (K0, I', J, R1 T) := by
  have w1 : A 1 ≤ 4 := w.1.2.1
  have w8 : A 8 ≤ 9999 := w.1.2.2.2.2.2.2.2.2.1
  have w9 : A 9 < 30881 := w.1.2.2.2.2.2.2.2.2.2.1
  obtain ⟨I1, f1, t1, q1⟩ := sp_drawa (sc := sc) (d := d + 6) (J := J) (T := T) w t
  have e1 : I1 1 10 = nI (A 1) := (tw_rumours t1).trans (congrArg nI (dr_o (by omega)))
  have e8 : I1 1 11 = nI (A 8) := (tw_day t1).trans (congrArg nI (dr_o (by omega)))
  have eM1 : txI I1 = M := (txI_c (fun c k hc => f1 c k (by omega))).trans eM
  have g1 : ∀ c k, c ≠ 69 ∧ c ≠ 70 ∧ (c < 1 ∨ 9 < c) → I1 c k = I c k := fun c k hc => f1 c k (by omega)
  unfold tnA
  by_cases c4 : A 9 % 6 < 4
  · rw [if_pos c4]
    by_cases c0 : A 1 = 0
    · rw [if_pos c0]
      refine ⟨I1, g1, t1, fun Q => ?_⟩
      rw [c0] at e1
      simp (disch := first | assumption | omega | decide) only [x4a_0, x4a_1, x4a_2, x4a_3, x4a_4, x4a_5, x4a_6, x4a_7, x4a_8, x4a_9, x4a_10, x4a_11, x4a_12, x4a_13, x4a_14, x4a_15, x4a_16r, x4a_16n, x4a_17r, x4a_17n, x4a_18, x4a_19, x4a_20, x4a_21, x4a_22, x4a_23, x4a_24, x4a_25, x4a_26, x4a_27, x4a_28, x4a_29, x4a_30, x4a_31, x4a_32, x4a_33, x4a_34, x4a_35, x4a_36, x4a_37, x4a_38, x4a_39, x4a_40, x4a_41, x4a_42, x4a_43, x4a_44, x4a_45, x4a_46, x4a_47r, x4a_47n, x4a_48, x4a_49, x4a_50r, x4a_50n, x4a_51, x4a_52, x4a_53, x4a_54, x4a_55, x4a_56, x4a_57, x4a_58, x4a_59, x4a_60, x4a_61, x4a_62, x4a_63, x4a_64, x4a_65, x4a_66, x4a_67, x4a_68, x4a_69, x4a_70, x4a_71, x4a_72, x4a_73, x4a_74, x4a_75, x4a_76, x4a_77, x4a_78, x4a_79, x4a_80, x4a_81, x4a_82, x4a_83, x4a_84, ↓reduceIte, Option.toList, List.nil_append, List.cons_append, nI_add, pk_mul, n_and, n_or, n_xor, nI_leI, nI_ltI, nI_eq, n_z, uI_s, uI_n, bI_n0, bI_n1, bT, bF, if_true, if_false, not_true, not_false_eq_true, pk_div, pk_rem, Nat.reduceEqDiff, Nat.reduceLeDiff, Nat.reduceLT, Nat.reduceAdd, Nat.reduceMul, Nat.reduceSub, Nat.not_lt_zero, Nat.zero_le, reduceCtorEq, ite_self, n_rem, and_self, and_true, true_and, and_false, false_and, c2_lw, c2_r, c2_00, Bool.false_eq_true, q1, c4, e1]
    · rw [if_neg c0]
      have hz : ¬ nI (A 1) = 0 := by
        rw [n_z, nI_eq (by omega) (by decide)]
        exact c0
      have c0' : (nI (A 1) = nI 0) = False := eq_false hz
      obtain ⟨h, eh⟩ : ∃ h, h = A 9 / 6 % 8 := ⟨_, rfl⟩
      obtain ⟨r, er⟩ : ∃ r, r = A 9 % A 1 := ⟨_, rfl⟩
      have hh : h < 8 := by omega
      have hr : r < A 1 := by rw [er]; exact Nat.mod_lt _ (by omega)
      have hr' : r < drA A 1 := by rw [dr_o (by omega)]; exact hr
      unfold tnB
      rw [← eh, ← er]
      have ds : drA A (28 + r) = A (28 + r) := dr_o (by omega)
      have lp : A (28 + r) ≤ 9999 := w.2.1.2.2.2.1 r (by omega)
      have ep : I1 6 r = nI (A (28 + r)) := (tw_purse t1 hr').trans (congrArg nI ds)
      by_cases c1 : A 9 % 6 ≤ 1
      · rw [if_pos c1]
        have c1' : ¬ 1 < A 9 % 6 := by omega
        have n2 : ¬ A 9 % 6 = 2 := by omega
        have n3 : ¬ A 9 % 6 = 3 := by omega
        obtain ⟨I2, f2, q2⟩ := sp_canCa (sc := sc) (d := d + 1) (J := J) (T := T) hF (dr_W w) hh hr' t1 eM1
        cases hc : canB f (drA A) h r
        · rw [if_neg (by decide)]
          rw [hc] at q2
          refine ⟨I2, fun c k hc => (f2 c k (by omega)).trans (g1 c k hc), Twn_c t1 (fun c k hc => f2 c k (by omega)) (fun _ _ _ _ => rfl) ⟨(dr_W w).1.1, (dr_W w).1.2.1⟩, fun Q => ?_⟩
          rcases lw_or tx with ⟨a, e⟩ | e <;> rw [e] at q2 ⊢ <;> simp (disch := first | assumption | omega | decide) only [x4a_0, x4a_1, x4a_2, x4a_3, x4a_4, x4a_5, x4a_6, x4a_7, x4a_8, x4a_9, x4a_10, x4a_11, x4a_12, x4a_13, x4a_14, x4a_15, x4a_16r, x4a_16n, x4a_17r, x4a_17n, x4a_18, x4a_19, x4a_20, x4a_21, x4a_22, x4a_23, x4a_24, x4a_25, x4a_26, x4a_27, x4a_28, x4a_29, x4a_30, x4a_31, x4a_32, x4a_33, x4a_34, x4a_35, x4a_36, x4a_37, x4a_38, x4a_39, x4a_40, x4a_41, x4a_42, x4a_43, x4a_44, x4a_45, x4a_46, x4a_47r, x4a_47n, x4a_48, x4a_49, x4a_50r, x4a_50n, x4a_51, x4a_52, x4a_53, x4a_54, x4a_55, x4a_56, x4a_57, x4a_58, x4a_59, x4a_60, x4a_61, x4a_62, x4a_63, x4a_64, x4a_65, x4a_66, x4a_67, x4a_68, x4a_69, x4a_70, x4a_71, x4a_72, x4a_73, x4a_74, x4a_75, x4a_76, x4a_77, x4a_78, x4a_79, x4a_80, x4a_81, x4a_82, x4a_83, x4a_84, ↓reduceIte, Option.toList, List.nil_append, List.cons_append, nI_add, pk_mul, n_and, n_or, n_xor, nI_leI, nI_ltI, nI_eq, n_z, uI_s, uI_n, bI_n0, bI_n1, bT, bF, if_true, if_false, not_true, not_false_eq_true, pk_div, pk_rem, Nat.reduceEqDiff, Nat.reduceLeDiff, Nat.reduceLT, Nat.reduceAdd, Nat.reduceMul, Nat.reduceSub, Nat.not_lt_zero, Nat.zero_le, reduceCtorEq, ite_self, n_rem, and_self, and_true, true_and, and_false, false_and, c2_lw, c2_r, c2_00, Bool.false_eq_true, q1, c4, e1, c0', ← eh, ← er, c1', q2, show bo false = nI 0 from rfl, n2, n3]
        · rw [if_pos rfl]
          rw [hc] at q2
          obtain ⟨I3, f3, t3, q3⟩ := sp_keepTa (sc := sc) (d := d + 6) (J := J) (T := T) (dr_W w) hh hr' (Twn_c t1 (fun c k hc => f2 c k (by omega)) (fun _ _ _ _ => rfl) ⟨(dr_W w).1.1, (dr_W w).1.2.1⟩)
          refine ⟨I3, fun c k hc => (f3 c k (by omega)).trans ((f2 c k (by omega)).trans (g1 c k hc)), t3, fun Q => ?_⟩
          rcases lw_or tx with ⟨a, e⟩ | e <;> rw [e] at q2 ⊢ <;> simp (disch := first | assumption | omega | decide) only [x4a_0, x4a_1, x4a_2, x4a_3, x4a_4, x4a_5, x4a_6, x4a_7, x4a_8, x4a_9, x4a_10, x4a_11, x4a_12, x4a_13, x4a_14, x4a_15, x4a_16r, x4a_16n, x4a_17r, x4a_17n, x4a_18, x4a_19, x4a_20, x4a_21, x4a_22, x4a_23, x4a_24, x4a_25, x4a_26, x4a_27, x4a_28, x4a_29, x4a_30, x4a_31, x4a_32, x4a_33, x4a_34, x4a_35, x4a_36, x4a_37, x4a_38, x4a_39, x4a_40, x4a_41, x4a_42, x4a_43, x4a_44, x4a_45, x4a_46, x4a_47r, x4a_47n, x4a_48, x4a_49, x4a_50r, x4a_50n, x4a_51, x4a_52, x4a_53, x4a_54, x4a_55, x4a_56, x4a_57, x4a_58, x4a_59, x4a_60, x4a_61, x4a_62, x4a_63, x4a_64, x4a_65, x4a_66, x4a_67, x4a_68, x4a_69, x4a_70, x4a_71, x4a_72, x4a_73, x4a_74, x4a_75, x4a_76, x4a_77, x4a_78, x4a_79, x4a_80, x4a_81, x4a_82, x4a_83, x4a_84, ↓reduceIte, Option.toList, List.nil_append, List.cons_append, nI_add, pk_mul, n_and, n_or, n_xor, nI_leI, nI_ltI, nI_eq, n_z, uI_s, uI_n, bI_n0, bI_n1, bT, bF, if_true, if_false, not_true, not_false_eq_true, pk_div, pk_rem, Nat.reduceEqDiff, Nat.reduceLeDiff, Nat.reduceLT, Nat.reduceAdd, Nat.reduceMul, Nat.reduceSub, Nat.not_lt_zero, Nat.zero_le, reduceCtorEq, ite_self, n_rem, and_self, and_true, true_and, and_false, false_and, c2_lw, c2_r, c2_00, Bool.false_eq_true, q1, c4, e1, c0', ← eh, ← er, c1', q2, show bo true = nI 1 from rfl, q3]
      · rw [if_neg c1]
        have c1' : 1 < A 9 % 6 := by omega
        by_cases c2 : A 9 % 6 = 2
        · rw [if_pos c2]
          obtain ⟨I3, f3, t3, q3⟩ := sp_forgetTa (sc := sc) (d := d + 6) (J := J) (T := T) (dr_W w) hh hr' t1
          refine ⟨I3, fun c k hc => (f3 c k (by omega)).trans (g1 c k hc), t3, fun Q => ?_⟩
          simp (disch := first | assumption | omega | decide) only [x4a_0, x4a_1, x4a_2, x4a_3, x4a_4, x4a_5, x4a_6, x4a_7, x4a_8, x4a_9, x4a_10, x4a_11, x4a_12, x4a_13, x4a_14, x4a_15, x4a_16r, x4a_16n, x4a_17r, x4a_17n, x4a_18, x4a_19, x4a_20, x4a_21, x4a_22, x4a_23, x4a_24, x4a_25, x4a_26, x4a_27, x4a_28, x4a_29, x4a_30, x4a_31, x4a_32, x4a_33, x4a_34, x4a_35, x4a_36, x4a_37, x4a_38, x4a_39, x4a_40, x4a_41, x4a_42, x4a_43, x4a_44, x4a_45, x4a_46, x4a_47r, x4a_47n, x4a_48, x4a_49, x4a_50r, x4a_50n, x4a_51, x4a_52, x4a_53, x4a_54, x4a_55, x4a_56, x4a_57, x4a_58, x4a_59, x4a_60, x4a_61, x4a_62, x4a_63, x4a_64, x4a_65, x4a_66, x4a_67, x4a_68, x4a_69, x4a_70, x4a_71, x4a_72, x4a_73, x4a_74, x4a_75, x4a_76, x4a_77, x4a_78, x4a_79, x4a_80, x4a_81, x4a_82, x4a_83, x4a_84, ↓reduceIte, Option.toList, List.nil_append, List.cons_append, nI_add, pk_mul, n_and, n_or, n_xor, nI_leI, nI_ltI, nI_eq, n_z, uI_s, uI_n, bI_n0, bI_n1, bT, bF, if_true, if_false, not_true, not_false_eq_true, pk_div, pk_rem, Nat.reduceEqDiff, Nat.reduceLeDiff, Nat.reduceLT, Nat.reduceAdd, Nat.reduceMul, Nat.reduceSub, Nat.not_lt_zero, Nat.zero_le, reduceCtorEq, ite_self, n_rem, and_self, and_true, true_and, and_false, false_and, c2_lw, c2_r, c2_00, Bool.false_eq_true, q1, c2, e1, c0', ← eh, ← er, q3]
        · rw [if_neg c2]
          have c3 : A 9 % 6 = 3 := by omega
          obtain ⟨s, es⟩ : ∃ s, s = 1 + A 9 / 6 % 9 := ⟨_, rfl⟩
          rw [← es]
          by_cases cs : A (28 + r) + s ≤ 9999
          · rw [if_pos cs]
            have cs' : ¬ 9999 < A (28 + r) + s := by omega
            refine ⟨uI I1 6 r (nI (A (28 + r) + s)), fun c k hc => (uI_n (by omega)).trans (g1 c k hc), pu_Ta (dr_W w) hr' t1, fun Q => ?_⟩
            simp (disch := first | assumption | omega | decide) only [x4a_0, x4a_1, x4a_2, x4a_3, x4a_4, x4a_5, x4a_6, x4a_7, x4a_8, x4a_9, x4a_10, x4a_11, x4a_12, x4a_13, x4a_14, x4a_15, x4a_16r, x4a_16n, x4a_17r, x4a_17n, x4a_18, x4a_19, x4a_20, x4a_21, x4a_22, x4a_23, x4a_24, x4a_25, x4a_26, x4a_27, x4a_28, x4a_29, x4a_30, x4a_31, x4a_32, x4a_33, x4a_34, x4a_35, x4a_36, x4a_37, x4a_38, x4a_39, x4a_40, x4a_41, x4a_42, x4a_43, x4a_44, x4a_45, x4a_46, x4a_47r, x4a_47n, x4a_48, x4a_49, x4a_50r, x4a_50n, x4a_51, x4a_52, x4a_53, x4a_54, x4a_55, x4a_56, x4a_57, x4a_58, x4a_59, x4a_60, x4a_61, x4a_62, x4a_63, x4a_64, x4a_65, x4a_66, x4a_67, x4a_68, x4a_69, x4a_70, x4a_71, x4a_72, x4a_73, x4a_74, x4a_75, x4a_76, x4a_77, x4a_78, x4a_79, x4a_80, x4a_81, x4a_82, x4a_83, x4a_84, ↓reduceIte, Option.toList, List.nil_append, List.cons_append, nI_add, pk_mul, n_and, n_or, n_xor, nI_leI, nI_ltI, nI_eq, n_z, uI_s, uI_n, bI_n0, bI_n1, bT, bF, if_true, if_false, not_true, not_false_eq_true, pk_div, pk_rem, Nat.reduceEqDiff, Nat.reduceLeDiff, Nat.reduceLT, Nat.reduceAdd, Nat.reduceMul, Nat.reduceSub, Nat.not_lt_zero, Nat.zero_le, reduceCtorEq, ite_self, n_rem, and_self, and_true, true_and, and_false, false_and, c2_lw, c2_r, c2_00, Bool.false_eq_true, q1, c3, e1, c0', ← eh, ← er, ← es, ep, cs']
          · rw [if_neg cs]
            have cs' : 9999 < A (28 + r) + s := by omega
            refine ⟨I1, g1, t1, fun Q => ?_⟩
            simp (disch := first | assumption | omega | decide) only [x4a_0, x4a_1, x4a_2, x4a_3, x4a_4, x4a_5, x4a_6, x4a_7, x4a_8, x4a_9, x4a_10, x4a_11, x4a_12, x4a_13, x4a_14, x4a_15, x4a_16r, x4a_16n, x4a_17r, x4a_17n, x4a_18, x4a_19, x4a_20, x4a_21, x4a_22, x4a_23, x4a_24, x4a_25, x4a_26, x4a_27, x4a_28, x4a_29, x4a_30, x4a_31, x4a_32, x4a_33, x4a_34, x4a_35, x4a_36, x4a_37, x4a_38, x4a_39, x4a_40, x4a_41, x4a_42, x4a_43, x4a_44, x4a_45, x4a_46, x4a_47r, x4a_47n, x4a_48, x4a_49, x4a_50r, x4a_50n, x4a_51, x4a_52, x4a_53, x4a_54, x4a_55, x4a_56, x4a_57, x4a_58, x4a_59, x4a_60, x4a_61, x4a_62, x4a_63, x4a_64, x4a_65, x4a_66, x4a_67, x4a_68, x4a_69, x4a_70, x4a_71, x4a_72, x4a_73, x4a_74, x4a_75, x4a_76, x4a_77, x4a_78, x4a_79, x4a_80, x4a_81, x4a_82, x4a_83, x4a_84, ↓reduceIte, Option.toList, List.nil_append, List.cons_append, nI_add, pk_mul, n_and, n_or, n_xor, nI_leI, nI_ltI, nI_eq, n_z, uI_s, uI_n, bI_n0, bI_n1, bT, bF, if_true, if_false, not_true, not_false_eq_true, pk_div, pk_rem, Nat.reduceEqDiff, Nat.reduceLeDiff, Nat.reduceLT, Nat.reduceAdd, Nat.reduceMul, Nat.reduceSub, Nat.not_lt_zero, Nat.zero_le, reduceCtorEq, ite_self, n_rem, and_self, and_true, true_and, and_false, false_and, c2_lw, c2_r, c2_00, Bool.false_eq_true, q1, c3, e1, c0', ← eh, ← er, ← es, ep, cs']
  · rw [if_neg c4]
    by_cases c8 : A 8 < 9999
    · rw [if_pos c8]
      have c8' : ¬ 9999 ≤ A 8 := by omega
      obtain ⟨I2, f2, t2, q2⟩ := sp_passCa (sc := sc) (d := d) (J := J) (T := T) hF hC hg (dr_W w) t1 eM1
      refine ⟨I2, fun c k hc => (f2 c k (by omega)).trans (g1 c k hc), t2, fun Q => ?_⟩
      rcases lw_or tx with ⟨a, e⟩ | e <;> rw [e] at q2 ⊢ <;> simp (disch := first | assumption | omega | decide) only [x4a_0, x4a_1, x4a_2, x4a_3, x4a_4, x4a_5, x4a_6, x4a_7, x4a_8, x4a_9, x4a_10, x4a_11, x4a_12, x4a_13, x4a_14, x4a_15, x4a_16r, x4a_16n, x4a_17r, x4a_17n, x4a_18, x4a_19, x4a_20, x4a_21, x4a_22, x4a_23, x4a_24, x4a_25, x4a_26, x4a_27, x4a_28, x4a_29, x4a_30, x4a_31, x4a_32, x4a_33, x4a_34, x4a_35, x4a_36, x4a_37, x4a_38, x4a_39, x4a_40, x4a_41, x4a_42, x4a_43, x4a_44, x4a_45, x4a_46, x4a_47r, x4a_47n, x4a_48, x4a_49, x4a_50r, x4a_50n, x4a_51, x4a_52, x4a_53, x4a_54, x4a_55, x4a_56, x4a_57, x4a_58, x4a_59, x4a_60, x4a_61, x4a_62, x4a_63, x4a_64, x4a_65, x4a_66, x4a_67, x4a_68, x4a_69, x4a_70, x4a_71, x4a_72, x4a_73, x4a_74, x4a_75, x4a_76, x4a_77, x4a_78, x4a_79, x4a_80, x4a_81, x4a_82, x4a_83, x4a_84, ↓reduceIte, Option.toList, List.nil_append, List.cons_append, nI_add, pk_mul, n_and, n_or, n_xor, nI_leI, nI_ltI, nI_eq, n_z, uI_s, uI_n, bI_n0, bI_n1, bT, bF, if_true, if_false, not_true, not_false_eq_true, pk_div, pk_rem, Nat.reduceEqDiff, Nat.reduceLeDiff, Nat.reduceLT, Nat.reduceAdd, Nat.reduceMul, Nat.reduceSub, Nat.not_lt_zero, Nat.zero_le, reduceCtorEq, ite_self, n_rem, and_self, and_true, true_and, and_false, false_and, c2_lw, c2_r, c2_00, Bool.false_eq_true, q1, c4, e8, c8', q2]
    · rw [if_neg c8]
      have c8' : 9999 ≤ A 8 := by omega
      refine ⟨I1, g1, t1, fun Q => ?_⟩
      simp (disch := first | assumption | omega | decide) only [x4a_0, x4a_1, x4a_2, x4a_3, x4a_4, x4a_5, x4a_6, x4a_7, x4a_8, x4a_9, x4a_10, x4a_11, x4a_12, x4a_13, x4a_14, x4a_15, x4a_16r, x4a_16n, x4a_17r, x4a_17n, x4a_18, x4a_19, x4a_20, x4a_21, x4a_22, x4a_23, x4a_24, x4a_25, x4a_26, x4a_27, x4a_28, x4a_29, x4a_30, x4a_31, x4a_32, x4a_33, x4a_34, x4a_35, x4a_36, x4a_37, x4a_38, x4a_39, x4a_40, x4a_41, x4a_42, x4a_43, x4a_44, x4a_45, x4a_46, x4a_47r, x4a_47n, x4a_48, x4a_49, x4a_50r, x4a_50n, x4a_51, x4a_52, x4a_53, x4a_54, x4a_55, x4a_56, x4a_57, x4a_58, x4a_59, x4a_60, x4a_61, x4a_62, x4a_63, x4a_64, x4a_65, x4a_66, x4a_67, x4a_68, x4a_69, x4a_70, x4a_71, x4a_72, x4a_73, x4a_74, x4a_75, x4a_76, x4a_77, x4a_78, x4a_79, x4a_80, x4a_81, x4a_82, x4a_83, x4a_84, ↓reduceIte, Option.toList, List.nil_append, List.cons_append, nI_add, pk_mul, n_and, n_or, n_xor, nI_leI, nI_ltI, nI_eq, n_z, uI_s, uI_n, bI_n0, bI_n1, bT, bF, if_true, if_false, not_true, not_false_eq_true, pk_div, pk_rem, Nat.reduceEqDiff, Nat.reduceLeDiff, Nat.reduceLT, Nat.reduceAdd, Nat.reduceMul, Nat.reduceSub, Nat.not_lt_zero, Nat.zero_le, reduceCtorEq, ite_self, n_rem, and_self, and_true, true_and, and_false, false_and, c2_lw, c2_r, c2_00, Bool.false_eq_true, q1, c4, e8, c8']
theorem sp_turnM {I : Nat → Nat → Int32} {J : Nat → Nat → Int64} {A : Nat → Nat} (hF : BelM M tx f) (hM : RntM M tx g) (hg : gB g) (hl : I 89 23 = nI 1) (w : Wf A) (m : AtM I 90 A) (eM : txI I = M) (e3 : A 3 = tx) : ∃ I' J', (∀ c k, c ≠ 90 ∧ c ≠ 95 ∧ c ≠ 97 ∧ (c ≠ 89 ∨ k ≠ 24) → I' c k = I c k) ∧ AtM I' 90 (tnA f g A) ∧ ∀ Q, Rn sc (d + 8) 250 0 [some (.ref 89), some (.int (nI (A 9))), none, none, none] [] (K0, uI I 90 9 (nI ((A 9 * 631 + 497) % 30881)), J, R1 T) Q = Q none (K0, I', J', R1 T) := by
  have w1 : A 1 ≤ 4 := w.1.2.1
  have w8 : A 8 ≤ 9999 := w.1.2.2.2.2.2.2.2.2.1
  have w9 : A 9 < 30881 := w.1.2.2.2.2.2.2.2.2.2.1
  have m1 : AtM (uI I 90 9 (nI ((A 9 * 631 + 497) % 30881))) 90 (drA A) := AtM_u m
  obtain ⟨I1, eI⟩ : ∃ X, X = uI I 90 9 (nI ((A 9 * 631 + 497) % 30881)) := ⟨_, rfl⟩
  rw [← eI] at m1 ⊢
  have f1 : ∀ c k, c ≠ 90 ∧ c ≠ 95 ∧ c ≠ 97 ∧ (c ≠ 89 ∨ k ≠ 24) → I1 c k = I c k := fun c k hc => by rw [eI]; exact uI_n (by omega)
  have m' : ∀ k, k < 1799 → I1 90 k = nI (drA A k) := m1
  have e1 : I1 90 1 = nI (A 1) := (m' 1 (by decide)).trans (congrArg nI (dr_o (by omega)))
  have e8 : I1 90 8 = nI (A 8) := (m' 8 (by decide)).trans (congrArg nI (dr_o (by omega)))
  have eM1 : txI I1 = M := (txI_c (fun c k hc => f1 c k (by omega))).trans eM
  have fl : FlM I1 tlA := Or.inl ⟨(f1 _ _ (by omega)).trans hl, rfl⟩
  have d3 : drA A 3 = tx := (dr_o (by omega)).trans e3
  have hz6 : A 9 % 6 < 6 := Nat.mod_lt _ (by decide)
  unfold tnA
  by_cases c0 : A 1 = 0
  · have hx : ¬ inR (-1) (drA A 1) := inR_m rfl (by rw [dr_o (by omega)]; omega)
    have d1 : drA A 1 ≤ 4 := by rw [dr_o (by omega)]; exact w1
    have rm := fun Q d' => sp_rumM_f (Q := Q) (sc := sc) (d := d') (J := J) (T := T) (I := I1) (A := drA A) hx d1 (m' 1 (by decide))
    have e1' : I1 90 1 = nI 0 := by rw [e1, c0]
    have hh : A 9 / 6 % 8 < 8 := Nat.mod_lt _ (by decide)
    by_cases c4 : A 9 % 6 < 4
    · rw [if_pos c4, if_pos c0]
      have h6 : A 9 % 6 = 0 ∨ A 9 % 6 = 1 ∨ A 9 % 6 = 2 ∨ A 9 % 6 = 3 := by omega
      refine ⟨I1, J, f1, m1, fun Q => ?_⟩
      rcases h6 with h6 | h6 | h6 | h6
      · simp (disch := first | assumption | omega | decide) only [x250_0, x250_1, x250_2, x250_3, x250_4, x250_5, x250_6, x250_7, x250_8, x250_9, x250_10, x250_11, x250_12, x250_13, x250_14, x250_15, x250_16, x250_17, x250_18, x250_19, x250_20, x250_21, x250_22, x250_23, x250_24, x250_25, x250_26, x250_27, x250_28, x250_29, x250_30, x250_31_0, x250_31_1, x250_31_2, x250_31_3, x250_31_d, x250_32, x250_33, x250_34, x250_35, x250_36, x250_37, x250_38, x250_39, x250_40, x250_41, x250_42, x250_43, x250_44, x250_45, x250_46, x250_47, x250_48, x250_49, x250_50, x250_51, x250_52, x250_53, x250_54, x250_55, x250_56, x250_57, x250_58, x250_59, x250_60, x250_61, x250_62, x250_63, x250_64, x250_65, x250_66, x250_67, x250_68, x250_69, x250_70, x250_71, x250_72, x250_73, x250_74, x250_75, x250_76, x250_77, x250_78, x250_79, x250_80, x250_81, x250_82, x250_83, x250_84, x235_0, x235_1, x235_2, x235_3, x235_4, x235_5, x235_6, x235_7, x235_8, x235_9, x235_10, x235_11, x235_12, x235_13, x235_14, x235_15, x235_16, x235_17, x235_18, x235_19, x235_20, x235_21, x235_22, x235_23, x235_24, x235_25, x235_26, x235_27, x235_28, x235_29, x235_30, x235_31, x235_32, x235_33, x235_34, x235_35, x235_36, x235_37, x235_38, ↓reduceIte, Option.toList, List.nil_append, List.cons_append, nI_add, pk_mul, n_and, n_or, n_xor, nI_leI, nI_ltI, nI_eq, n_z, uI_s, uI_n, bI_n0, bI_n1, bT, bF, if_true, if_false, not_true, not_false_eq_true, pk_div, pk_rem, Nat.reduceEqDiff, Nat.reduceLeDiff, Nat.reduceLT, Nat.reduceAdd, Nat.reduceMul, Nat.reduceSub, Nat.not_lt_zero, Nat.zero_le, reduceCtorEq, ite_self, n_rem, and_self, and_true, true_and, and_false, false_and, e1', h6, sp_houM_t hh, rm]
      · simp (disch := first | assumption | omega | decide) only [x250_0, x250_1, x250_2, x250_3, x250_4, x250_5, x250_6, x250_7, x250_8, x250_9, x250_10, x250_11, x250_12, x250_13, x250_14, x250_15, x250_16, x250_17, x250_18, x250_19, x250_20, x250_21, x250_22, x250_23, x250_24, x250_25, x250_26, x250_27, x250_28, x250_29, x250_30, x250_31_0, x250_31_1, x250_31_2, x250_31_3, x250_31_d, x250_32, x250_33, x250_34, x250_35, x250_36, x250_37, x250_38, x250_39, x250_40, x250_41, x250_42, x250_43, x250_44, x250_45, x250_46, x250_47, x250_48, x250_49, x250_50, x250_51, x250_52, x250_53, x250_54, x250_55, x250_56, x250_57, x250_58, x250_59, x250_60, x250_61, x250_62, x250_63, x250_64, x250_65, x250_66, x250_67, x250_68, x250_69, x250_70, x250_71, x250_72, x250_73, x250_74, x250_75, x250_76, x250_77, x250_78, x250_79, x250_80, x250_81, x250_82, x250_83, x250_84, x235_0, x235_1, x235_2, x235_3, x235_4, x235_5, x235_6, x235_7, x235_8, x235_9, x235_10, x235_11, x235_12, x235_13, x235_14, x235_15, x235_16, x235_17, x235_18, x235_19, x235_20, x235_21, x235_22, x235_23, x235_24, x235_25, x235_26, x235_27, x235_28, x235_29, x235_30, x235_31, x235_32, x235_33, x235_34, x235_35, x235_36, x235_37, x235_38, ↓reduceIte, Option.toList, List.nil_append, List.cons_append, nI_add, pk_mul, n_and, n_or, n_xor, nI_leI, nI_ltI, nI_eq, n_z, uI_s, uI_n, bI_n0, bI_n1, bT, bF, if_true, if_false, not_true, not_false_eq_true, pk_div, pk_rem, Nat.reduceEqDiff, Nat.reduceLeDiff, Nat.reduceLT, Nat.reduceAdd, Nat.reduceMul, Nat.reduceSub, Nat.not_lt_zero, Nat.zero_le, reduceCtorEq, ite_self, n_rem, and_self, and_true, true_and, and_false, false_and, e1', h6, sp_houM_t hh, rm]
      · simp (disch := first | assumption | omega | decide) only [x250_0, x250_1, x250_2, x250_3, x250_4, x250_5, x250_6, x250_7, x250_8, x250_9, x250_10, x250_11, x250_12, x250_13, x250_14, x250_15, x250_16, x250_17, x250_18, x250_19, x250_20, x250_21, x250_22, x250_23, x250_24, x250_25, x250_26, x250_27, x250_28, x250_29, x250_30, x250_31_0, x250_31_1, x250_31_2, x250_31_3, x250_31_d, x250_32, x250_33, x250_34, x250_35, x250_36, x250_37, x250_38, x250_39, x250_40, x250_41, x250_42, x250_43, x250_44, x250_45, x250_46, x250_47, x250_48, x250_49, x250_50, x250_51, x250_52, x250_53, x250_54, x250_55, x250_56, x250_57, x250_58, x250_59, x250_60, x250_61, x250_62, x250_63, x250_64, x250_65, x250_66, x250_67, x250_68, x250_69, x250_70, x250_71, x250_72, x250_73, x250_74, x250_75, x250_76, x250_77, x250_78, x250_79, x250_80, x250_81, x250_82, x250_83, x250_84, x237_0, x237_1, x237_2, x237_3, x237_4, x237_5, x237_6, x237_7, x237_8, x237_9, x237_10, x237_11, x237_12, x237_13, x237_14, x237_15, x237_16, x237_17, x237_18, x237_19, ↓reduceIte, Option.toList, List.nil_append, List.cons_append, nI_add, pk_mul, n_and, n_or, n_xor, nI_leI, nI_ltI, nI_eq, n_z, uI_s, uI_n, bI_n0, bI_n1, bT, bF, if_true, if_false, not_true, not_false_eq_true, pk_div, pk_rem, Nat.reduceEqDiff, Nat.reduceLeDiff, Nat.reduceLT, Nat.reduceAdd, Nat.reduceMul, Nat.reduceSub, Nat.not_lt_zero, Nat.zero_le, reduceCtorEq, ite_self, n_rem, and_self, and_true, true_and, and_false, false_and, e1', h6, sp_houM_t hh, rm]
      · simp (disch := first | assumption | omega | decide) only [x250_0, x250_1, x250_2, x250_3, x250_4, x250_5, x250_6, x250_7, x250_8, x250_9, x250_10, x250_11, x250_12, x250_13, x250_14, x250_15, x250_16, x250_17, x250_18, x250_19, x250_20, x250_21, x250_22, x250_23, x250_24, x250_25, x250_26, x250_27, x250_28, x250_29, x250_30, x250_31_0, x250_31_1, x250_31_2, x250_31_3, x250_31_d, x250_32, x250_33, x250_34, x250_35, x250_36, x250_37, x250_38, x250_39, x250_40, x250_41, x250_42, x250_43, x250_44, x250_45, x250_46, x250_47, x250_48, x250_49, x250_50, x250_51, x250_52, x250_53, x250_54, x250_55, x250_56, x250_57, x250_58, x250_59, x250_60, x250_61, x250_62, x250_63, x250_64, x250_65, x250_66, x250_67, x250_68, x250_69, x250_70, x250_71, x250_72, x250_73, x250_74, x250_75, x250_76, x250_77, x250_78, x250_79, x250_80, x250_81, x250_82, x250_83, x250_84, x238_0, x238_1, x238_2, x238_3, x238_4, x238_5, x238_6, x238_7, x238_8, x238_9, x238_10, x238_11, x238_12, x238_13, x238_14, x238_15, x238_16, x238_17, x238_18, x238_19, x238_20, x238_21, x238_22, ↓reduceIte, Option.toList, List.nil_append, List.cons_append, nI_add, pk_mul, n_and, n_or, n_xor, nI_leI, nI_ltI, nI_eq, n_z, uI_s, uI_n, bI_n0, bI_n1, bT, bF, if_true, if_false, not_true, not_false_eq_true, pk_div, pk_rem, Nat.reduceEqDiff, Nat.reduceLeDiff, Nat.reduceLT, Nat.reduceAdd, Nat.reduceMul, Nat.reduceSub, Nat.not_lt_zero, Nat.zero_le, reduceCtorEq, ite_self, n_rem, and_self, and_true, true_and, and_false, false_and, e1', h6, rm]
    · rw [if_neg c4]
      have h6 : A 9 % 6 = 4 ∨ A 9 % 6 = 5 := by omega
      by_cases c8 : A 8 < 9999
      · rw [if_pos c8]
        have c8' : ¬ 9999 ≤ A 8 := by omega
        obtain ⟨I2, J2, f2, r2, a2, q2⟩ := sp_passM (sc := sc) (d := d) (J := J) (T := T) hF hM hg fl (dr_W w) m1 eM1 d3
        refine ⟨I2, J2, fun c k hc => (f2 c k hc).trans (f1 c k hc), a2, fun Q => ?_⟩
        rcases h6 with h6 | h6 <;> simp (disch := first | assumption | omega | decide) only [x250_0, x250_1, x250_2, x250_3, x250_4, x250_5, x250_6, x250_7, x250_8, x250_9, x250_10, x250_11, x250_12, x250_13, x250_14, x250_15, x250_16, x250_17, x250_18, x250_19, x250_20, x250_21, x250_22, x250_23, x250_24, x250_25, x250_26, x250_27, x250_28, x250_29, x250_30, x250_31_0, x250_31_1, x250_31_2, x250_31_3, x250_31_d, x250_32, x250_33, x250_34, x250_35, x250_36, x250_37, x250_38, x250_39, x250_40, x250_41, x250_42, x250_43, x250_44, x250_45, x250_46, x250_47, x250_48, x250_49, x250_50, x250_51, x250_52, x250_53, x250_54, x250_55, x250_56, x250_57, x250_58, x250_59, x250_60, x250_61, x250_62, x250_63, x250_64, x250_65, x250_66, x250_67, x250_68, x250_69, x250_70, x250_71, x250_72, x250_73, x250_74, x250_75, x250_76, x250_77, x250_78, x250_79, x250_80, x250_81, x250_82, x250_83, x250_84, ↓reduceIte, Option.toList, List.nil_append, List.cons_append, nI_add, pk_mul, n_and, n_or, n_xor, nI_leI, nI_ltI, nI_eq, n_z, uI_s, uI_n, bI_n0, bI_n1, bT, bF, if_true, if_false, not_true, not_false_eq_true, pk_div, pk_rem, Nat.reduceEqDiff, Nat.reduceLeDiff, Nat.reduceLT, Nat.reduceAdd, Nat.reduceMul, Nat.reduceSub, Nat.not_lt_zero, Nat.zero_le, reduceCtorEq, ite_self, n_rem, and_self, and_true, true_and, and_false, false_and, e1', e8, h6, c8', q2]
      · rw [if_neg c8]
        have c8' : 9999 ≤ A 8 := by omega
        refine ⟨I1, J, f1, m1, fun Q => ?_⟩
        rcases h6 with h6 | h6 <;> simp (disch := first | assumption | omega | decide) only [x250_0, x250_1, x250_2, x250_3, x250_4, x250_5, x250_6, x250_7, x250_8, x250_9, x250_10, x250_11, x250_12, x250_13, x250_14, x250_15, x250_16, x250_17, x250_18, x250_19, x250_20, x250_21, x250_22, x250_23, x250_24, x250_25, x250_26, x250_27, x250_28, x250_29, x250_30, x250_31_0, x250_31_1, x250_31_2, x250_31_3, x250_31_d, x250_32, x250_33, x250_34, x250_35, x250_36, x250_37, x250_38, x250_39, x250_40, x250_41, x250_42, x250_43, x250_44, x250_45, x250_46, x250_47, x250_48, x250_49, x250_50, x250_51, x250_52, x250_53, x250_54, x250_55, x250_56, x250_57, x250_58, x250_59, x250_60, x250_61, x250_62, x250_63, x250_64, x250_65, x250_66, x250_67, x250_68, x250_69, x250_70, x250_71, x250_72, x250_73, x250_74, x250_75, x250_76, x250_77, x250_78, x250_79, x250_80, x250_81, x250_82, x250_83, x250_84, ↓reduceIte, Option.toList, List.nil_append, List.cons_append, nI_add, pk_mul, n_and, n_or, n_xor, nI_leI, nI_ltI, nI_eq, n_z, uI_s, uI_n, bI_n0, bI_n1, bT, bF, if_true, if_false, not_true, not_false_eq_true, pk_div, pk_rem, Nat.reduceEqDiff, Nat.reduceLeDiff, Nat.reduceLT, Nat.reduceAdd, Nat.reduceMul, Nat.reduceSub, Nat.not_lt_zero, Nat.zero_le, reduceCtorEq, ite_self, n_rem, and_self, and_true, true_and, and_false, false_and, e1', e8, h6, c8']
  · have hz : ¬ nI (A 1) = 0 := by
      rw [n_z, nI_eq (by omega) (by decide)]
      exact c0
    have c0' : (nI (A 1) = nI 0) = False := eq_false hz
    obtain ⟨h, eh⟩ : ∃ h, h = A 9 / 6 % 8 := ⟨_, rfl⟩
    obtain ⟨r, er⟩ : ∃ r, r = A 9 % A 1 := ⟨_, rfl⟩
    have hh : h < 8 := by omega
    have hr : r < A 1 := by rw [er]; exact Nat.mod_lt _ (by omega)
    have hr' : r < drA A 1 := by rw [dr_o (by omega)]; exact hr
    have d1 : drA A 1 ≤ 4 := by rw [dr_o (by omega)]; exact w1
    have rm := fun Q d' => sp_rumM_t (Q := Q) (sc := sc) (d := d') (J := J) (T := T) (I := I1) (A := drA A) hr' d1 (m' 1 (by decide))
    have dk : drA A (12 + h) = A (12 + h) := dr_o (by omega)
    have ek : I1 90 (12 + h) = nI (A (12 + h)) := (m' _ (by omega)).trans (congrArg nI dk)
    have lk := keep_lt w hh
    have ds : drA A (28 + r) = A (28 + r) := dr_o (by omega)
    have lp : A (28 + r) ≤ 9999 := w.2.1.2.2.2.1 r (by omega)
    have ep : I1 90 (28 + r) = nI (A (28 + r)) := (m' _ (by omega)).trans (congrArg nI ds)
    by_cases c4 : A 9 % 6 < 4
    · rw [if_pos c4, if_neg c0]
      unfold tnB
      rw [← eh, ← er]
      by_cases c1 : A 9 % 6 ≤ 1
      · rw [if_pos c1]
        have h6 : A 9 % 6 = 0 ∨ A 9 % 6 = 1 := by omega
        obtain ⟨I2, J2, f2, q2⟩ := sp_canM (sc := sc) (d := d + 1) (J := J) (T := T) hF (dr_W w) hh hr' m1 eM1 d3
        cases hc : canB f (drA A) h r
        · rw [if_neg (by decide)]
          rw [hc] at q2
          refine ⟨I2, J2, fun c k hc => (f2 c k (by omega)).trans (f1 c k hc), AtM_c m1 (fun k => f2 _ _ (by omega)), fun Q => ?_⟩
          rcases h6 with h6 | h6 <;> simp (disch := first | assumption | omega | decide) only [x250_0, x250_1, x250_2, x250_3, x250_4, x250_5, x250_6, x250_7, x250_8, x250_9, x250_10, x250_11, x250_12, x250_13, x250_14, x250_15, x250_16, x250_17, x250_18, x250_19, x250_20, x250_21, x250_22, x250_23, x250_24, x250_25, x250_26, x250_27, x250_28, x250_29, x250_30, x250_31_0, x250_31_1, x250_31_2, x250_31_3, x250_31_d, x250_32, x250_33, x250_34, x250_35, x250_36, x250_37, x250_38, x250_39, x250_40, x250_41, x250_42, x250_43, x250_44, x250_45, x250_46, x250_47, x250_48, x250_49, x250_50, x250_51, x250_52, x250_53, x250_54, x250_55, x250_56, x250_57, x250_58, x250_59, x250_60, x250_61, x250_62, x250_63, x250_64, x250_65, x250_66, x250_67, x250_68, x250_69, x250_70, x250_71, x250_72, x250_73, x250_74, x250_75, x250_76, x250_77, x250_78, x250_79, x250_80, x250_81, x250_82, x250_83, x250_84, ↓reduceIte, Option.toList, List.nil_append, List.cons_append, nI_add, pk_mul, n_and, n_or, n_xor, nI_leI, nI_ltI, nI_eq, n_z, uI_s, uI_n, bI_n0, bI_n1, bT, bF, if_true, if_false, not_true, not_false_eq_true, pk_div, pk_rem, Nat.reduceEqDiff, Nat.reduceLeDiff, Nat.reduceLT, Nat.reduceAdd, Nat.reduceMul, Nat.reduceSub, Nat.not_lt_zero, Nat.zero_le, reduceCtorEq, ite_self, n_rem, and_self, and_true, true_and, and_false, false_and, e1, c0', ← eh, ← er, h6, q2, show bo false = nI 0 from rfl]
        · rw [if_pos rfl]
          rw [hc] at q2
          obtain ⟨I3, f3, a3, q3⟩ := sp_tellM1 (sc := sc) (d := d + 6) (J := J2) (T := T) (dr_W w) hh hr' (AtM_c m1 (fun k => f2 _ _ (by omega))) ((f2 _ _ (by omega)).trans ((f1 _ _ (by omega)).trans hl))
          refine ⟨I3, J2, fun c k hc => (f3 c k (by omega)).trans ((f2 c k (by omega)).trans (f1 c k hc)), a3, fun Q => ?_⟩
          rcases h6 with h6 | h6 <;> simp (disch := first | assumption | omega | decide) only [x250_0, x250_1, x250_2, x250_3, x250_4, x250_5, x250_6, x250_7, x250_8, x250_9, x250_10, x250_11, x250_12, x250_13, x250_14, x250_15, x250_16, x250_17, x250_18, x250_19, x250_20, x250_21, x250_22, x250_23, x250_24, x250_25, x250_26, x250_27, x250_28, x250_29, x250_30, x250_31_0, x250_31_1, x250_31_2, x250_31_3, x250_31_d, x250_32, x250_33, x250_34, x250_35, x250_36, x250_37, x250_38, x250_39, x250_40, x250_41, x250_42, x250_43, x250_44, x250_45, x250_46, x250_47, x250_48, x250_49, x250_50, x250_51, x250_52, x250_53, x250_54, x250_55, x250_56, x250_57, x250_58, x250_59, x250_60, x250_61, x250_62, x250_63, x250_64, x250_65, x250_66, x250_67, x250_68, x250_69, x250_70, x250_71, x250_72, x250_73, x250_74, x250_75, x250_76, x250_77, x250_78, x250_79, x250_80, x250_81, x250_82, x250_83, x250_84, ↓reduceIte, Option.toList, List.nil_append, List.cons_append, nI_add, pk_mul, n_and, n_or, n_xor, nI_leI, nI_ltI, nI_eq, n_z, uI_s, uI_n, bI_n0, bI_n1, bT, bF, if_true, if_false, not_true, not_false_eq_true, pk_div, pk_rem, Nat.reduceEqDiff, Nat.reduceLeDiff, Nat.reduceLT, Nat.reduceAdd, Nat.reduceMul, Nat.reduceSub, Nat.not_lt_zero, Nat.zero_le, reduceCtorEq, ite_self, n_rem, and_self, and_true, true_and, and_false, false_and, e1, c0', ← eh, ← er, h6, q2, show bo true = nI 1 from rfl, q3]
      · rw [if_neg c1]
        by_cases c2 : A 9 % 6 = 2
        · rw [if_pos c2]
          by_cases hb : A (12 + h) / 2 ^ r % 2 = 1
          · refine ⟨uI I1 90 (12 + h) (nI (clr (drA A (12 + h)) r)), J, fun c k hc => (uI_n (by omega)).trans (f1 c k hc), AtM_u m1, fun Q => ?_⟩
            rw [dk, clr_t hb]
            simp (disch := first | assumption | omega | decide) only [x250_0, x250_1, x250_2, x250_3, x250_4, x250_5, x250_6, x250_7, x250_8, x250_9, x250_10, x250_11, x250_12, x250_13, x250_14, x250_15, x250_16, x250_17, x250_18, x250_19, x250_20, x250_21, x250_22, x250_23, x250_24, x250_25, x250_26, x250_27, x250_28, x250_29, x250_30, x250_31_0, x250_31_1, x250_31_2, x250_31_3, x250_31_d, x250_32, x250_33, x250_34, x250_35, x250_36, x250_37, x250_38, x250_39, x250_40, x250_41, x250_42, x250_43, x250_44, x250_45, x250_46, x250_47, x250_48, x250_49, x250_50, x250_51, x250_52, x250_53, x250_54, x250_55, x250_56, x250_57, x250_58, x250_59, x250_60, x250_61, x250_62, x250_63, x250_64, x250_65, x250_66, x250_67, x250_68, x250_69, x250_70, x250_71, x250_72, x250_73, x250_74, x250_75, x250_76, x250_77, x250_78, x250_79, x250_80, x250_81, x250_82, x250_83, x250_84, x237_0, x237_1, x237_2, x237_3, x237_4, x237_5, x237_6, x237_7, x237_8, x237_9, x237_10, x237_11, x237_12, x237_13, x237_14, x237_15, x237_16, x237_17, x237_18, x237_19, ↓reduceIte, Option.toList, List.nil_append, List.cons_append, nI_add, pk_mul, n_and, n_or, n_xor, nI_leI, nI_ltI, nI_eq, n_z, uI_s, uI_n, bI_n0, bI_n1, bT, bF, if_true, if_false, not_true, not_false_eq_true, pk_div, pk_rem, Nat.reduceEqDiff, Nat.reduceLeDiff, Nat.reduceLT, Nat.reduceAdd, Nat.reduceMul, Nat.reduceSub, Nat.not_lt_zero, Nat.zero_le, reduceCtorEq, ite_self, n_rem, and_self, and_true, true_and, and_false, false_and, e1, c0', ← eh, ← er, c2, sp_houM_t hh, rm, sp_has, ek, hb, n_one]
          · have ef : fgA (drA A) h r = drA A := by
              funext k
              by_cases hk : k = 12 + h
              · rw [fgA, upA_e hk, hk, dk, clr_f hb]
              · rw [fgA, upA_n hk]
            rw [ef]
            refine ⟨I1, J, f1, m1, fun Q => ?_⟩
            simp (disch := first | assumption | omega | decide) only [x250_0, x250_1, x250_2, x250_3, x250_4, x250_5, x250_6, x250_7, x250_8, x250_9, x250_10, x250_11, x250_12, x250_13, x250_14, x250_15, x250_16, x250_17, x250_18, x250_19, x250_20, x250_21, x250_22, x250_23, x250_24, x250_25, x250_26, x250_27, x250_28, x250_29, x250_30, x250_31_0, x250_31_1, x250_31_2, x250_31_3, x250_31_d, x250_32, x250_33, x250_34, x250_35, x250_36, x250_37, x250_38, x250_39, x250_40, x250_41, x250_42, x250_43, x250_44, x250_45, x250_46, x250_47, x250_48, x250_49, x250_50, x250_51, x250_52, x250_53, x250_54, x250_55, x250_56, x250_57, x250_58, x250_59, x250_60, x250_61, x250_62, x250_63, x250_64, x250_65, x250_66, x250_67, x250_68, x250_69, x250_70, x250_71, x250_72, x250_73, x250_74, x250_75, x250_76, x250_77, x250_78, x250_79, x250_80, x250_81, x250_82, x250_83, x250_84, x237_0, x237_1, x237_2, x237_3, x237_4, x237_5, x237_6, x237_7, x237_8, x237_9, x237_10, x237_11, x237_12, x237_13, x237_14, x237_15, x237_16, x237_17, x237_18, x237_19, ↓reduceIte, Option.toList, List.nil_append, List.cons_append, nI_add, pk_mul, n_and, n_or, n_xor, nI_leI, nI_ltI, nI_eq, n_z, uI_s, uI_n, bI_n0, bI_n1, bT, bF, if_true, if_false, not_true, not_false_eq_true, pk_div, pk_rem, Nat.reduceEqDiff, Nat.reduceLeDiff, Nat.reduceLT, Nat.reduceAdd, Nat.reduceMul, Nat.reduceSub, Nat.not_lt_zero, Nat.zero_le, reduceCtorEq, ite_self, n_rem, and_self, and_true, true_and, and_false, false_and, e1, c0', ← eh, ← er, c2, sp_houM_t hh, rm, sp_has, ek, hb]
        · rw [if_neg c2]
          have c3 : A 9 % 6 = 3 := by omega
          obtain ⟨s, es⟩ : ∃ s, s = 1 + A 9 / 6 % 9 := ⟨_, rfl⟩
          have hs : 1 ≤ s ∧ s ≤ 999 := by omega
          rw [← es]
          by_cases cs : A (28 + r) + s ≤ 9999
          · rw [if_pos cs]
            have cs' : ¬ 9999 < A (28 + r) + s := by omega
            refine ⟨uI I1 90 (28 + r) (nI (A (28 + r) + s)), J, fun c k hc => (uI_n (by omega)).trans (f1 c k hc), AtM_u m1, fun Q => ?_⟩
            simp (disch := first | assumption | omega | decide) only [x250_0, x250_1, x250_2, x250_3, x250_4, x250_5, x250_6, x250_7, x250_8, x250_9, x250_10, x250_11, x250_12, x250_13, x250_14, x250_15, x250_16, x250_17, x250_18, x250_19, x250_20, x250_21, x250_22, x250_23, x250_24, x250_25, x250_26, x250_27, x250_28, x250_29, x250_30, x250_31_0, x250_31_1, x250_31_2, x250_31_3, x250_31_d, x250_32, x250_33, x250_34, x250_35, x250_36, x250_37, x250_38, x250_39, x250_40, x250_41, x250_42, x250_43, x250_44, x250_45, x250_46, x250_47, x250_48, x250_49, x250_50, x250_51, x250_52, x250_53, x250_54, x250_55, x250_56, x250_57, x250_58, x250_59, x250_60, x250_61, x250_62, x250_63, x250_64, x250_65, x250_66, x250_67, x250_68, x250_69, x250_70, x250_71, x250_72, x250_73, x250_74, x250_75, x250_76, x250_77, x250_78, x250_79, x250_80, x250_81, x250_82, x250_83, x250_84, x238_0, x238_1, x238_2, x238_3, x238_4, x238_5, x238_6, x238_7, x238_8, x238_9, x238_10, x238_11, x238_12, x238_13, x238_14, x238_15, x238_16, x238_17, x238_18, x238_19, x238_20, x238_21, x238_22, ↓reduceIte, Option.toList, List.nil_append, List.cons_append, nI_add, pk_mul, n_and, n_or, n_xor, nI_leI, nI_ltI, nI_eq, n_z, uI_s, uI_n, bI_n0, bI_n1, bT, bF, if_true, if_false, not_true, not_false_eq_true, pk_div, pk_rem, Nat.reduceEqDiff, Nat.reduceLeDiff, Nat.reduceLT, Nat.reduceAdd, Nat.reduceMul, Nat.reduceSub, Nat.not_lt_zero, Nat.zero_le, reduceCtorEq, ite_self, n_rem, and_self, and_true, true_and, and_false, false_and, e1, c0', ← eh, ← er, ← es, c3, rm, sp_isIn, ↓in_t, ep, cs']
          · rw [if_neg cs]
            have cs' : 9999 < A (28 + r) + s := by omega
            refine ⟨I1, J, f1, m1, fun Q => ?_⟩
            simp (disch := first | assumption | omega | decide) only [x250_0, x250_1, x250_2, x250_3, x250_4, x250_5, x250_6, x250_7, x250_8, x250_9, x250_10, x250_11, x250_12, x250_13, x250_14, x250_15, x250_16, x250_17, x250_18, x250_19, x250_20, x250_21, x250_22, x250_23, x250_24, x250_25, x250_26, x250_27, x250_28, x250_29, x250_30, x250_31_0, x250_31_1, x250_31_2, x250_31_3, x250_31_d, x250_32, x250_33, x250_34, x250_35, x250_36, x250_37, x250_38, x250_39, x250_40, x250_41, x250_42, x250_43, x250_44, x250_45, x250_46, x250_47, x250_48, x250_49, x250_50, x250_51, x250_52, x250_53, x250_54, x250_55, x250_56, x250_57, x250_58, x250_59, x250_60, x250_61, x250_62, x250_63, x250_64, x250_65, x250_66, x250_67, x250_68, x250_69, x250_70, x250_71, x250_72, x250_73, x250_74, x250_75, x250_76, x250_77, x250_78, x250_79, x250_80, x250_81, x250_82, x250_83, x250_84, x238_0, x238_1, x238_2, x238_3, x238_4, x238_5, x238_6, x238_7, x238_8, x238_9, x238_10, x238_11, x238_12, x238_13, x238_14, x238_15, x238_16, x238_17, x238_18, x238_19, x238_20, x238_21, x238_22, ↓reduceIte, Option.toList, List.nil_append, List.cons_append, nI_add, pk_mul, n_and, n_or, n_xor, nI_leI, nI_ltI, nI_eq, n_z, uI_s, uI_n, bI_n0, bI_n1, bT, bF, if_true, if_false, not_true, not_false_eq_true, pk_div, pk_rem, Nat.reduceEqDiff, Nat.reduceLeDiff, Nat.reduceLT, Nat.reduceAdd, Nat.reduceMul, Nat.reduceSub, Nat.not_lt_zero, Nat.zero_le, reduceCtorEq, ite_self, n_rem, and_self, and_true, true_and, and_false, false_and, e1, c0', ← eh, ← er, ← es, c3, rm, sp_isIn, ↓in_t, ep, cs']
    · rw [if_neg c4]
      have h6 : A 9 % 6 = 4 ∨ A 9 % 6 = 5 := by omega
      by_cases c8 : A 8 < 9999
      · rw [if_pos c8]
        have c8' : ¬ 9999 ≤ A 8 := by omega
        obtain ⟨I2, J2, f2, r2, a2, q2⟩ := sp_passM (sc := sc) (d := d) (J := J) (T := T) hF hM hg fl (dr_W w) m1 eM1 d3
        refine ⟨I2, J2, fun c k hc => (f2 c k hc).trans (f1 c k hc), a2, fun Q => ?_⟩
        rcases h6 with h6 | h6 <;> simp (disch := first | assumption | omega | decide) only [x250_0, x250_1, x250_2, x250_3, x250_4, x250_5, x250_6, x250_7, x250_8, x250_9, x250_10, x250_11, x250_12, x250_13, x250_14, x250_15, x250_16, x250_17, x250_18, x250_19, x250_20, x250_21, x250_22, x250_23, x250_24, x250_25, x250_26, x250_27, x250_28, x250_29, x250_30, x250_31_0, x250_31_1, x250_31_2, x250_31_3, x250_31_d, x250_32, x250_33, x250_34, x250_35, x250_36, x250_37, x250_38, x250_39, x250_40, x250_41, x250_42, x250_43, x250_44, x250_45, x250_46, x250_47, x250_48, x250_49, x250_50, x250_51, x250_52, x250_53, x250_54, x250_55, x250_56, x250_57, x250_58, x250_59, x250_60, x250_61, x250_62, x250_63, x250_64, x250_65, x250_66, x250_67, x250_68, x250_69, x250_70, x250_71, x250_72, x250_73, x250_74, x250_75, x250_76, x250_77, x250_78, x250_79, x250_80, x250_81, x250_82, x250_83, x250_84, ↓reduceIte, Option.toList, List.nil_append, List.cons_append, nI_add, pk_mul, n_and, n_or, n_xor, nI_leI, nI_ltI, nI_eq, n_z, uI_s, uI_n, bI_n0, bI_n1, bT, bF, if_true, if_false, not_true, not_false_eq_true, pk_div, pk_rem, Nat.reduceEqDiff, Nat.reduceLeDiff, Nat.reduceLT, Nat.reduceAdd, Nat.reduceMul, Nat.reduceSub, Nat.not_lt_zero, Nat.zero_le, reduceCtorEq, ite_self, n_rem, and_self, and_true, true_and, and_false, false_and, e1, c0', ← eh, ← er, e8, h6, c8', q2]
      · rw [if_neg c8]
        have c8' : 9999 ≤ A 8 := by omega
        refine ⟨I1, J, f1, m1, fun Q => ?_⟩
        rcases h6 with h6 | h6 <;> simp (disch := first | assumption | omega | decide) only [x250_0, x250_1, x250_2, x250_3, x250_4, x250_5, x250_6, x250_7, x250_8, x250_9, x250_10, x250_11, x250_12, x250_13, x250_14, x250_15, x250_16, x250_17, x250_18, x250_19, x250_20, x250_21, x250_22, x250_23, x250_24, x250_25, x250_26, x250_27, x250_28, x250_29, x250_30, x250_31_0, x250_31_1, x250_31_2, x250_31_3, x250_31_d, x250_32, x250_33, x250_34, x250_35, x250_36, x250_37, x250_38, x250_39, x250_40, x250_41, x250_42, x250_43, x250_44, x250_45, x250_46, x250_47, x250_48, x250_49, x250_50, x250_51, x250_52, x250_53, x250_54, x250_55, x250_56, x250_57, x250_58, x250_59, x250_60, x250_61, x250_62, x250_63, x250_64, x250_65, x250_66, x250_67, x250_68, x250_69, x250_70, x250_71, x250_72, x250_73, x250_74, x250_75, x250_76, x250_77, x250_78, x250_79, x250_80, x250_81, x250_82, x250_83, x250_84, ↓reduceIte, Option.toList, List.nil_append, List.cons_append, nI_add, pk_mul, n_and, n_or, n_xor, nI_leI, nI_ltI, nI_eq, n_z, uI_s, uI_n, bI_n0, bI_n1, bT, bF, if_true, if_false, not_true, not_false_eq_true, pk_div, pk_rem, Nat.reduceEqDiff, Nat.reduceLeDiff, Nat.reduceLT, Nat.reduceAdd, Nat.reduceMul, Nat.reduceSub, Nat.not_lt_zero, Nat.zero_le, reduceCtorEq, ite_self, n_rem, and_self, and_true, true_and, and_false, false_and, e1, c0', ← eh, ← er, e8, h6, c8']
theorem jt_years {x y : Int32} : Jt TXp sc (d + 9) 123 251 [some (.ref 0), some (.int x), some (.int y), none] [some (.ref 89), some (.int x), some (.int y), none, none] := by
  intro A B M w hX
  have w' := w
  obtain ⟨wA, wB, wt⟩ := w
  have w4 : A 4 ≤ 30 := wA.1.2.2.2.2.1
  have ey : ¬ inR y 41 → bI (nI 1 ≤ y ∧ y ≤ nI 40) = nI 0 := by
    intro hy
    rw [bI_f]
    rintro ⟨h1, h2⟩
    have := nr_f hy (by decide)
    rw [← this]
    exact ⟨Int32.le_trans (by decide) h1, h2⟩
  by_cases hx : inR x 10000
  · obtain ⟨a, ha, rfl⟩ := hx
    by_cases hy : inR y 41
    · obtain ⟨n, hn, rfl⟩ := hy
      by_cases hn0 : n = 0
      · subst hn0
        refine jtR w' (-1) ?_ ?_ <;> intro I J T Q hI
        · simp (disch := first | assumption | omega | decide) only [x123_0, x123_1, x123_2, x123_3, x123_4, x123_5, x123_6, x123_7, x123_8, x123_9, x123_10, x123_11, x123_12, x123_13, x123_14, x123_15, x123_16, x123_17, x123_18, x123_19, x123_20, x123_21, x123_22, x123_23, x123_24, x123_25, x123_26, x123_28, x123_29, x123_30, x123_31, x123_32, x123_33, x123_34, x123_35, x123_36r, x123_36n, x123_37, x123_38, x123_39, x123_40, x123_41, x123_42, ↓reduceIte, Option.toList, List.nil_append, List.cons_append, nI_add, pk_mul, n_and, n_or, n_xor, nI_leI, nI_ltI, nI_eq, n_z, uI_s, uI_n, bI_n0, bI_n1, bT, bF, if_true, if_false, not_true, not_false_eq_true, pk_div, pk_rem, Nat.reduceEqDiff, Nat.reduceLeDiff, Nat.reduceLT, Nat.reduceAdd, Nat.reduceMul, Nat.reduceSub, Nat.not_lt_zero, Nat.zero_le, reduceCtorEq, ite_self, n_rem, and_self, and_true, true_and, and_false, false_and, sp_isWithin, ↓in_t, ↓in_l]
        · simp (disch := first | assumption | omega | decide) only [x251_0, x251_1, x251_2, x251_3, x251_4, x251_5, x251_6, x251_7, x251_8, x251_9, x251_10, x251_11, x251_12, x251_13, x251_14, x251_15, x251_16, x251_17, x251_18, x251_19, x251_20, x251_21, x251_22, x251_23, x251_24, x251_26, x251_27, x251_28, x251_29, x251_30, x251_31, x251_32, x251_33, x251_34, x251_35, x251_36, x251_37, x251_38, x251_39, x251_40, x251_41, x251_42, x251_43, x251_44, ↓reduceIte, Option.toList, List.nil_append, List.cons_append, nI_add, pk_mul, n_and, n_or, n_xor, nI_leI, nI_ltI, nI_eq, n_z, uI_s, uI_n, bI_n0, bI_n1, bT, bF, if_true, if_false, not_true, not_false_eq_true, pk_div, pk_rem, Nat.reduceEqDiff, Nat.reduceLeDiff, Nat.reduceLT, Nat.reduceAdd, Nat.reduceMul, Nat.reduceSub, Nat.not_lt_zero, Nat.zero_le, reduceCtorEq, ite_self, n_rem, and_self, and_true, true_and, and_false, false_and, sp_isIn, ↓in_t, ↓in_l]
      · obtain ⟨f, hF, hFM⟩ := bel_ex (law_ok wA hX)
        obtain ⟨g, hC, hM, hg⟩ := rnt_ex (law_ok wA hX)
        have hg' : gB g := hg
        obtain ⟨A1, eA⟩ : ∃ X, X = upA (svA A) 9 (a * 2 + 379) := ⟨_, rfl⟩
        have W1 : Wf A1 := by rw [eA]; exact up9_W (sv_W wA) (by omega)
        have fA : ∀ k, (k < 119 ∧ k ≠ 4 ∧ k ≠ 9) ∨ 1769 ≤ k → A1 k = A k := fun k hk => by rw [eA, upA_n (by omega)]; exact sv_o w4 (by omega)
        have fS : ∀ k, k ≠ 9 → A1 k = svA A k := fun k hk => by rw [eA]; exact upA_n hk
        obtain ⟨wn', kn⟩ := tnN_inv (f := f) hg' W1 n
        have f2 : tnN f g A1 n 2 = A 2 := (kn 2 (by omega)).trans (fA 2 (by omega))
        refine ⟨nI (tnN f g A1 n 8), tnN f g A1 n, B, ⟨wn', wB, by omega⟩, by omega, ?_, ?_⟩
        · intro I J T cI eM
          obtain ⟨I1, f1, s1, q1⟩ := sp_save (sc := sc) (d := d + 8) (J := J) (T := T) (u2 := none) (u3 := none) (u4 := none) wA cI.1 cI.2.2.1
          obtain ⟨I2, eI⟩ : ∃ X, X = uI I1 1 12 (nI (a * 2 + 379)) := ⟨_, rfl⟩
          have t2 : Twn I2 1 2 3 4 5 6 7 8 9 A1 := by rw [eI, eA]; exact up9_T (sv_W wA) (sv_T wA cI.1 f1)
          have g2 : ∀ c k, c ≠ 1 ∧ c ≠ 28 ∧ c ≠ 29 → I2 c k = I c k := fun c k hc => by rw [eI, uI_n (by omega)]; exact f1 c k (by omega)
          obtain ⟨I', ⟨h1, h2⟩, h3⟩ := iterE (fun j I' => Twn I' 1 2 3 4 5 6 7 8 9 (tnN f g A1 j) ∧ ∀ c k, c ≠ 69 ∧ c ≠ 70 ∧ (c < 1 ∨ 9 < c) → I' c k = I2 c k) (fun j I' => fun Q => Rn sc (d + 9) 123 27 [some (.ref 0), some (.int (nI a)), some (.int (nI n)), some (.int (nI j))] [] (K0, I', J, R1 T) Q) n (by
            rintro j I3 hj ⟨c3, f3⟩
            obtain ⟨wj, kj⟩ := tnN_inv (f := f) hg' W1 j
            have eM3 : txI I3 = M := (txI_c (fun c k hc => (f3 c k (by omega)).trans (g2 c k (by omega)))).trans eM
            obtain ⟨I4, f4, t4, q4⟩ := sp_turnC (sc := sc) (d := d + 1) (J := J) (T := T) hF hC hg' wj c3 eM3
            have hr' := fun Q => sp_ruling (Q := Q) (sc := sc) (d := d + 7) (J := J) (T := T) wj c3
            have e3 : tnN f g A1 j 3 = A 3 := (kj 3 (by omega)).trans (fA 3 (by omega))
            rw [e3] at hr'
            have a1 : ¬ n ≤ j := by omega
            refine ⟨I4, ⟨t4, fun c k hc => (f4 c k hc).trans (f3 c k hc)⟩, funext fun Q => ?_⟩
            show Rn _ _ _ _ _ _ _ _ = Rn _ _ _ _ _ _ _ _
            rw [x123_27]
            rcases lw_or (A 3) with ⟨b, e⟩ | e <;> rw [e] at q4 hr' <;> simp (disch := first | assumption | omega | decide) only [x123_0, x123_1, x123_2, x123_3, x123_4, x123_5, x123_6, x123_7, x123_8, x123_9, x123_10, x123_11, x123_12, x123_13, x123_14, x123_15, x123_16, x123_17, x123_18, x123_19, x123_20, x123_21, x123_22, x123_23, x123_24, x123_25, x123_26, x123_28, x123_29, x123_30, x123_31, x123_32, x123_33, x123_34, x123_35, x123_36r, x123_36n, x123_37, x123_38, x123_39, x123_40, x123_41, x123_42, ↓reduceIte, Option.toList, List.nil_append, List.cons_append, nI_add, pk_mul, n_and, n_or, n_xor, nI_leI, nI_ltI, nI_eq, n_z, uI_s, uI_n, bI_n0, bI_n1, bT, bF, if_true, if_false, not_true, not_false_eq_true, pk_div, pk_rem, Nat.reduceEqDiff, Nat.reduceLeDiff, Nat.reduceLT, Nat.reduceAdd, Nat.reduceMul, Nat.reduceSub, Nat.not_lt_zero, Nat.zero_le, reduceCtorEq, ite_self, n_rem, and_self, and_true, true_and, and_false, false_and, a1, hr', q4]) I2 ⟨t2, fun _ _ _ => rfl⟩
          have gg : ∀ c k, c ≠ 69 ∧ c ≠ 70 ∧ c ≠ 28 ∧ c ≠ 29 ∧ (c < 1 ∨ 9 < c) → I' c k = I c k := fun c k hc => (h2 c k (by omega)).trans (g2 c k (by omega))
          have s2 : Stw I' 28 29 (tnN f g A1 n) := Stw_c s1 (fun c k hc => by rw [h2 c k (by omega), eI]; exact uI_n (by omega)) ((kn 4 (by omega)).trans (fS 4 (by omega))) (fun k h1 h2 => (kn k (by omega)).trans (fS k (by omega))) (sv_W wA)
          refine ⟨I', fun c k hc => gg c k (by omega), CI_sv w' cI h1 s2 (fun k hk => (kn k (by omega)).trans (fA k (by omega))) (fun c k hc => gg c k (by omega)), fun Q => ?_⟩
          have h3' := congrFun h3 Q
          rw [eI] at h3'
          simp (disch := first | assumption | omega | decide) only [x123_0, x123_1, x123_2, x123_3, x123_4, x123_5, x123_6, x123_7, x123_8, x123_9, x123_10, x123_11, x123_12, x123_13, x123_14, x123_15, x123_16, x123_17, x123_18, x123_19, x123_20, x123_21, x123_22, x123_23, x123_24, x123_25, x123_26, x123_28, x123_29, x123_30, x123_31, x123_32, x123_33, x123_34, x123_35, x123_36r, x123_36n, x123_37, x123_38, x123_39, x123_40, x123_41, x123_42, ↓reduceIte, Option.toList, List.nil_append, List.cons_append, nI_add, pk_mul, n_and, n_or, n_xor, nI_leI, nI_ltI, nI_eq, n_z, uI_s, uI_n, bI_n0, bI_n1, bT, bF, if_true, if_false, not_true, not_false_eq_true, pk_div, pk_rem, Nat.reduceEqDiff, Nat.reduceLeDiff, Nat.reduceLT, Nat.reduceAdd, Nat.reduceMul, Nat.reduceSub, Nat.not_lt_zero, Nat.zero_le, reduceCtorEq, ite_self, n_rem, and_self, and_true, true_and, and_false, false_and, sp_isWithin, ↓in_t, q1]
          refine Eq.trans h3' ?_
          show Rn _ _ _ _ _ _ _ _ = _
          rw [x123_27]
          simp (disch := first | assumption | omega | decide) only [x123_0, x123_1, x123_2, x123_3, x123_4, x123_5, x123_6, x123_7, x123_8, x123_9, x123_10, x123_11, x123_12, x123_13, x123_14, x123_15, x123_16, x123_17, x123_18, x123_19, x123_20, x123_21, x123_22, x123_23, x123_24, x123_25, x123_26, x123_28, x123_29, x123_30, x123_31, x123_32, x123_33, x123_34, x123_35, x123_36r, x123_36n, x123_37, x123_38, x123_39, x123_40, x123_41, x123_42, ↓reduceIte, Option.toList, List.nil_append, List.cons_append, nI_add, pk_mul, n_and, n_or, n_xor, nI_leI, nI_ltI, nI_eq, n_z, uI_s, uI_n, bI_n0, bI_n1, bT, bF, if_true, if_false, not_true, not_false_eq_true, pk_div, pk_rem, Nat.reduceEqDiff, Nat.reduceLeDiff, Nat.reduceLT, Nat.reduceAdd, Nat.reduceMul, Nat.reduceSub, Nat.not_lt_zero, Nat.zero_le, reduceCtorEq, ite_self, n_rem, and_self, and_true, true_and, and_false, false_and, Nat.le_refl, tw_day h1]
        · intro I J T mI eM
          obtain ⟨I1, f1, a1, q1⟩ := sp_keepM (sc := sc) (d := d + 8) (J := J) (T := T) (u1 := none) (u2 := none) wA mI.1
          obtain ⟨I2, eI⟩ : ∃ X, X = uI I1 90 9 (nI (a * 2 + 379)) := ⟨_, rfl⟩
          have t2 : AtM I2 90 A1 := by rw [eI, eA]; exact AtM_u a1
          have g2 : ∀ c k, c ≠ 90 → I2 c k = I c k := fun c k hc => by rw [eI, uI_n (by omega)]; exact f1 c k (by omega)
          obtain ⟨⟨I', J', u'⟩, ⟨h1, h2⟩, h3⟩ := iterE (St := (Nat → Nat → Int32) × (Nat → Nat → Int64) × Option Value) (fun j s => AtM s.1 90 (tnN f g A1 j) ∧ ∀ c k, c ≠ 90 ∧ c ≠ 95 ∧ c ≠ 97 ∧ (c ≠ 89 ∨ k ≠ 24) → s.1 c k = I2 c k) (fun j s => fun Q => Rn sc (d + 9) 251 25 [some (.ref 89), some (.int (nI a)), some (.int (nI n)), some (.int (nI j)), s.2.2] [] (K0, s.1, s.2.1, R1 T) Q) n (by
            rintro j ⟨I3, J3, u3⟩ hj ⟨c3, f3⟩
            obtain ⟨wj, kj⟩ := tnN_inv (f := f) hg' W1 j
            have eM3 : txI I3 = M := (txI_c (fun c k hc => (f3 c k (by omega)).trans (g2 c k (by omega)))).trans eM
            have e3 : tnN f g A1 j 3 = A 3 := (kj 3 (by omega)).trans (fA 3 (by omega))
            have w9 : tnN f g A1 j 9 < 30881 := wj.1.2.2.2.2.2.2.2.2.2.1
            have e9 : I3 90 9 = nI (tnN f g A1 j 9) := c3 9 (by decide)
            obtain ⟨I4, J4, f4, t4, q4⟩ := sp_turnM (sc := sc) (d := d) (J := J3) (T := T) hFM hM hg' ((f3 _ _ (by omega)).trans ((g2 _ _ (by omega)).trans mI.2.2)) wj c3 eM3 e3
            have a1 : ¬ n ≤ j := by omega
            refine ⟨(I4, J4, some (.int (nI (tnN f g A1 j 9)))), ⟨t4, fun c k hc => (f4 c k hc).trans (f3 c k hc)⟩, funext fun Q => ?_⟩
            show Rn _ _ _ _ _ _ _ _ = Rn _ _ _ _ _ _ _ _
            rw [x251_25]
            simp (disch := first | assumption | omega | decide) only [x251_0, x251_1, x251_2, x251_3, x251_4, x251_5, x251_6, x251_7, x251_8, x251_9, x251_10, x251_11, x251_12, x251_13, x251_14, x251_15, x251_16, x251_17, x251_18, x251_19, x251_20, x251_21, x251_22, x251_23, x251_24, x251_26, x251_27, x251_28, x251_29, x251_30, x251_31, x251_32, x251_33, x251_34, x251_35, x251_36, x251_37, x251_38, x251_39, x251_40, x251_41, x251_42, x251_43, x251_44, x234_0, x234_1, x234_2, x234_3, x234_4, x234_5, x234_6, x234_7, x234_8, x234_9, x234_10, x234_11, x234_12, x234_13, x234_14, x234_15, x234_16, ↓reduceIte, Option.toList, List.nil_append, List.cons_append, nI_add, pk_mul, n_and, n_or, n_xor, nI_leI, nI_ltI, nI_eq, n_z, uI_s, uI_n, bI_n0, bI_n1, bT, bF, if_true, if_false, not_true, not_false_eq_true, pk_div, pk_rem, Nat.reduceEqDiff, Nat.reduceLeDiff, Nat.reduceLT, Nat.reduceAdd, Nat.reduceMul, Nat.reduceSub, Nat.not_lt_zero, Nat.zero_le, reduceCtorEq, ite_self, n_rem, and_self, and_true, true_and, and_false, false_and, a1, e9, ↓an_e w9, q4]) (I2, J, none) ⟨t2, fun _ _ _ => rfl⟩
          have gg : ∀ c k, c ≠ 90 ∧ c ≠ 95 ∧ c ≠ 97 ∧ (c ≠ 89 ∨ k ≠ 24) → I' c k = I c k := fun c k hc => (h2 c k hc).trans (g2 c k (by omega))
          refine ⟨I', J', ⟨fun c k hc => gg c k (by omega), fun k hk => gg _ _ (by omega)⟩, ⟨h1, AtM_c mI.2.1 (fun k => gg _ _ (by omega)), (gg _ _ (by omega)).trans mI.2.2⟩, fun Q => ?_⟩
          have h3' := congrFun h3 Q
          rw [eI] at h3'
          have e8 : I' 90 8 = nI (tnN f g A1 n 8) := h1 8 (by decide)
          simp (disch := first | assumption | omega | decide) only [x251_0, x251_1, x251_2, x251_3, x251_4, x251_5, x251_6, x251_7, x251_8, x251_9, x251_10, x251_11, x251_12, x251_13, x251_14, x251_15, x251_16, x251_17, x251_18, x251_19, x251_20, x251_21, x251_22, x251_23, x251_24, x251_26, x251_27, x251_28, x251_29, x251_30, x251_31, x251_32, x251_33, x251_34, x251_35, x251_36, x251_37, x251_38, x251_39, x251_40, x251_41, x251_42, x251_43, x251_44, ↓reduceIte, Option.toList, List.nil_append, List.cons_append, nI_add, pk_mul, n_and, n_or, n_xor, nI_leI, nI_ltI, nI_eq, n_z, uI_s, uI_n, bI_n0, bI_n1, bT, bF, if_true, if_false, not_true, not_false_eq_true, pk_div, pk_rem, Nat.reduceEqDiff, Nat.reduceLeDiff, Nat.reduceLT, Nat.reduceAdd, Nat.reduceMul, Nat.reduceSub, Nat.not_lt_zero, Nat.zero_le, reduceCtorEq, ite_self, n_rem, and_self, and_true, true_and, and_false, false_and, sp_isIn, ↓in_t, q1]
          refine Eq.trans h3' ?_
          show Rn _ _ _ _ _ _ _ _ = _
          rw [x251_25]
          simp (disch := first | assumption | omega | decide) only [x251_0, x251_1, x251_2, x251_3, x251_4, x251_5, x251_6, x251_7, x251_8, x251_9, x251_10, x251_11, x251_12, x251_13, x251_14, x251_15, x251_16, x251_17, x251_18, x251_19, x251_20, x251_21, x251_22, x251_23, x251_24, x251_26, x251_27, x251_28, x251_29, x251_30, x251_31, x251_32, x251_33, x251_34, x251_35, x251_36, x251_37, x251_38, x251_39, x251_40, x251_41, x251_42, x251_43, x251_44, ↓reduceIte, Option.toList, List.nil_append, List.cons_append, nI_add, pk_mul, n_and, n_or, n_xor, nI_leI, nI_ltI, nI_eq, n_z, uI_s, uI_n, bI_n0, bI_n1, bT, bF, if_true, if_false, not_true, not_false_eq_true, pk_div, pk_rem, Nat.reduceEqDiff, Nat.reduceLeDiff, Nat.reduceLT, Nat.reduceAdd, Nat.reduceMul, Nat.reduceSub, Nat.not_lt_zero, Nat.zero_le, reduceCtorEq, ite_self, n_rem, and_self, and_true, true_and, and_false, false_and, Nat.le_refl, e8]
    · refine jtR w' (-1) ?_ ?_ <;> intro I J T Q hI
      · simp (disch := first | assumption | omega | decide) only [x123_0, x123_1, x123_2, x123_3, x123_4, x123_5, x123_6, x123_7, x123_8, x123_9, x123_10, x123_11, x123_12, x123_13, x123_14, x123_15, x123_16, x123_17, x123_18, x123_19, x123_20, x123_21, x123_22, x123_23, x123_24, x123_25, x123_26, x123_28, x123_29, x123_30, x123_31, x123_32, x123_33, x123_34, x123_35, x123_36r, x123_36n, x123_37, x123_38, x123_39, x123_40, x123_41, x123_42, ↓reduceIte, Option.toList, List.nil_append, List.cons_append, nI_add, pk_mul, n_and, n_or, n_xor, nI_leI, nI_ltI, nI_eq, n_z, uI_s, uI_n, bI_n0, bI_n1, bT, bF, if_true, if_false, not_true, not_false_eq_true, pk_div, pk_rem, Nat.reduceEqDiff, Nat.reduceLeDiff, Nat.reduceLT, Nat.reduceAdd, Nat.reduceMul, Nat.reduceSub, Nat.not_lt_zero, Nat.zero_le, reduceCtorEq, ite_self, n_rem, and_self, and_true, true_and, and_false, false_and, sp_isWithin, ↓in_t, ey hy]
      · simp (disch := first | assumption | omega | decide) only [x251_0, x251_1, x251_2, x251_3, x251_4, x251_5, x251_6, x251_7, x251_8, x251_9, x251_10, x251_11, x251_12, x251_13, x251_14, x251_15, x251_16, x251_17, x251_18, x251_19, x251_20, x251_21, x251_22, x251_23, x251_24, x251_26, x251_27, x251_28, x251_29, x251_30, x251_31, x251_32, x251_33, x251_34, x251_35, x251_36, x251_37, x251_38, x251_39, x251_40, x251_41, x251_42, x251_43, x251_44, ↓reduceIte, Option.toList, List.nil_append, List.cons_append, nI_add, pk_mul, n_and, n_or, n_xor, nI_leI, nI_ltI, nI_eq, n_z, uI_s, uI_n, bI_n0, bI_n1, bT, bF, if_true, if_false, not_true, not_false_eq_true, pk_div, pk_rem, Nat.reduceEqDiff, Nat.reduceLeDiff, Nat.reduceLT, Nat.reduceAdd, Nat.reduceMul, Nat.reduceSub, Nat.not_lt_zero, Nat.zero_le, reduceCtorEq, ite_self, n_rem, and_self, and_true, true_and, and_false, false_and, sp_isIn, ↓in_t, ey hy]
  · refine jtR w' (-1) ?_ ?_ <;> intro I J T Q hI
    · simp (disch := first | assumption | omega | decide) only [x123_0, x123_1, x123_2, x123_3, x123_4, x123_5, x123_6, x123_7, x123_8, x123_9, x123_10, x123_11, x123_12, x123_13, x123_14, x123_15, x123_16, x123_17, x123_18, x123_19, x123_20, x123_21, x123_22, x123_23, x123_24, x123_25, x123_26, x123_28, x123_29, x123_30, x123_31, x123_32, x123_33, x123_34, x123_35, x123_36r, x123_36n, x123_37, x123_38, x123_39, x123_40, x123_41, x123_42, ↓reduceIte, Option.toList, List.nil_append, List.cons_append, nI_add, pk_mul, n_and, n_or, n_xor, nI_leI, nI_ltI, nI_eq, n_z, uI_s, uI_n, bI_n0, bI_n1, bT, bF, if_true, if_false, not_true, not_false_eq_true, pk_div, pk_rem, Nat.reduceEqDiff, Nat.reduceLeDiff, Nat.reduceLT, Nat.reduceAdd, Nat.reduceMul, Nat.reduceSub, Nat.not_lt_zero, Nat.zero_le, reduceCtorEq, ite_self, n_rem, and_self, and_true, true_and, and_false, false_and, sp_isWithin, ↓in_f hx]
    · simp (disch := first | assumption | omega | decide) only [x251_0, x251_1, x251_2, x251_3, x251_4, x251_5, x251_6, x251_7, x251_8, x251_9, x251_10, x251_11, x251_12, x251_13, x251_14, x251_15, x251_16, x251_17, x251_18, x251_19, x251_20, x251_21, x251_22, x251_23, x251_24, x251_26, x251_27, x251_28, x251_29, x251_30, x251_31, x251_32, x251_33, x251_34, x251_35, x251_36, x251_37, x251_38, x251_39, x251_40, x251_41, x251_42, x251_43, x251_44, ↓reduceIte, Option.toList, List.nil_append, List.cons_append, nI_add, pk_mul, n_and, n_or, n_xor, nI_leI, nI_ltI, nI_eq, n_z, uI_s, uI_n, bI_n0, bI_n1, bT, bF, if_true, if_false, not_true, not_false_eq_true, pk_div, pk_rem, Nat.reduceEqDiff, Nat.reduceLeDiff, Nat.reduceLT, Nat.reduceAdd, Nat.reduceMul, Nat.reduceSub, Nat.not_lt_zero, Nat.zero_le, reduceCtorEq, ite_self, n_rem, and_self, and_true, true_and, and_false, false_and, sp_isIn, ↓in_f hx]
end Years
