/-! a day passes: what it comes to, and the class's side of it -/
def drA (A : Nat → Nat) : Nat → Nat := upA A 9 ((A 9 * 631 + 497) % 30881)
def pyB (g : (Nat → Nat) → Nat → Nat → Nat) (A : Nat → Nat) (h r : Nat) : Nat → Nat := if A (12 + h) / 2 ^ r % 2 = 1 then pyA g A h r else A
def pyH (g : (Nat → Nat) → Nat → Nat → Nat) (r : Nat) (A : Nat → Nat) : Nat → Nat → Nat
  | 0 => A
  | h + 1 => pyB g (pyH g r A h) h r
def pyR (g : (Nat → Nat) → Nat → Nat → Nat) (A : Nat → Nat) : Nat → Nat → Nat
  | 0 => A
  | r + 1 => pyH g r (pyR g A r) 8
def hrB (tl : (Nat → Nat) → Nat → Nat → Nat → Nat) (f : (Nat → Nat) → Nat → Nat → Int32) (hs s : Nat) (A : Nat → Nat) (h : Nat) : Nat → Nat := if hs / 2 ^ h % 2 = 1 ∧ canB f A h s = true then tl A h s else A
def hrN (tl : (Nat → Nat) → Nat → Nat → Nat → Nat) (f : (Nat → Nat) → Nat → Nat → Int32) (hs s : Nat) (A : Nat → Nat) : Nat → Nat → Nat
  | 0 => A
  | h + 1 => hrB tl f hs s (hrN tl f hs s A h) h
def p1A (g : (Nat → Nat) → Nat → Nat → Nat) (A : Nat → Nat) : Nat → Nat := pyR g (upA A 10 0) (A 1)
def p3A (g : (Nat → Nat) → Nat → Nat → Nat) (A : Nat → Nat) : Nat → Nat := drA (drA (p1A g A))
def psQ (g : (Nat → Nat) → Nat → Nat → Nat) (A : Nat → Nat) : Nat := p1A g A 9 % 8
def psR (g : (Nat → Nat) → Nat → Nat → Nat) (A : Nat → Nat) : Nat := drA (p1A g A) 9 % A 1
def psH (g : (Nat → Nat) → Nat → Nat → Nat) (A : Nat → Nat) : Nat := if p3A g A (12 + psQ g A) / 2 ^ psR g A % 2 = 1 then bes (p3A g A) (psQ g A) else 0
def p4A (tl : (Nat → Nat) → Nat → Nat → Nat → Nat) (f : (Nat → Nat) → Nat → Nat → Int32) (g : (Nat → Nat) → Nat → Nat → Nat) (A : Nat → Nat) : Nat → Nat := if A 1 = 0 then p1A g A else hrN tl f (psH g A) (psR g A) (p3A g A) 8
def psA (tl : (Nat → Nat) → Nat → Nat → Nat → Nat) (f : (Nat → Nat) → Nat → Nat → Int32) (g : (Nat → Nat) → Nat → Nat → Nat) (A : Nat → Nat) : Nat → Nat := upA (p4A tl f g A) 8 (A 8 + 1)
def gB (g : (Nat → Nat) → Nat → Nat → Nat) : Prop := ∀ A h r, Wf A → h < 8 → r < A 1 → g A h r ≤ 99
/-- places that paying leaves -/
def pyK (k : Nat) : Prop := k < 10 ∨ (11 ≤ k ∧ k < 20) ∨ 32 ≤ k
theorem pyH_inv {g : (Nat → Nat) → Nat → Nat → Nat} {A : Nat → Nat} {r : Nat} (hg : gB g) (w : Wf A) (hr : r < A 1) (hp : A 10 + 99 * 8 < 1000000) : ∀ j, j ≤ 8 → Wf (pyH g r A j) ∧ pyH g r A j 10 ≤ A 10 + 99 * j ∧ ∀ k, pyK k → pyH g r A j k = A k
  | 0, _ => ⟨w, Nat.le_refl _, fun _ _ => rfl⟩
  | j + 1, hj => by
    obtain ⟨h1, h2, h3⟩ := pyH_inv hg w hr hp j (by omega)
    have w1 : A 1 ≤ 4 := w.1.2.1
    have e1 : pyH g r A j 1 = A 1 := h3 1 (Or.inl (by omega))
    rw [pyH]
    unfold pyB
    split
    · have hs := pyS_l (g := g) (A := pyH g r A j) (h := j) (r := r)
      have hb := hg _ j r h1 (by omega) (by omega)
      refine ⟨py_W h1 (by omega) (by omega) hb (by omega), ?_, fun k hk => ?_⟩
      · rw [pyA, upA_s]
        omega
      · rw [py_o (by unfold pyK at hk; omega)]
        exact h3 k hk
    · exact ⟨h1, by omega, h3⟩
theorem pyR_inv {g : (Nat → Nat) → Nat → Nat → Nat} {A : Nat → Nat} (hg : gB g) (w : Wf A) (hp : A 10 = 0) : ∀ j, j ≤ A 1 → Wf (pyR g A j) ∧ pyR g A j 10 ≤ 99 * 8 * j ∧ ∀ k, pyK k → pyR g A j k = A k
  | 0, _ => ⟨w, by rw [pyR, hp]; omega, fun _ _ => rfl⟩
  | j + 1, hj => by
    obtain ⟨h1, h2, h3⟩ := pyR_inv hg w hp j (by omega)
    have w1 : A 1 ≤ 4 := w.1.2.1
    have e1 : pyR g A j 1 = A 1 := h3 1 (Or.inl (by omega))
    obtain ⟨k1, k2, k3⟩ := pyH_inv (r := j) hg h1 (by omega) (by omega) 8 (by omega)
    rw [pyR]
    exact ⟨k1, by omega, fun k hk => (k3 k hk).trans (h3 k hk)⟩
theorem up10_W {A : Nat → Nat} (w : Wf A) : Wf (upA A 10 0) := by
  have wA := w
  obtain ⟨A', eA⟩ : ∃ X, X = upA A 10 0 := ⟨_, rfl⟩
  have fA : ∀ k, k ≠ 10 → A' k = A k := fun k hk => by rw [eA]; exact upA_n hk
  rw [← eA]
  refine ⟨?_, (Wf2_c (fun k hk => fA k (by omega)) wA.2.1), (Wf3_c (fun k hk => fA k (by omega)) wA.1.1 wA.2.2.1), (Wf4_c (fun k hk => fA k (by omega)) wA.1 wA.2.2.2.1), (Wf5_c (fun k hk => fA k (by omega)) wA.1.2.2.2.2.1 wA.2.2.2.2)⟩
  obtain ⟨v0, v1, v2, v3, v4, v5, v6, v7, v8, v9, v10, v11⟩ := w.1
  unfold Wf1
  rw [fA 0 (by omega), fA 1 (by omega), fA 2 (by omega), fA 3 (by omega), fA 4 (by omega), fA 5 (by omega), fA 6 (by omega), fA 7 (by omega), fA 8 (by omega), fA 9 (by omega), fA 11 (by omega), show A' 10 = 0 by rw [eA, upA_s]]
  exact ⟨v0, v1, v2, v3, v4, v5, v6, v7, v8, v9, by omega, v11⟩
theorem dr_W {A : Nat → Nat} (w : Wf A) : Wf (drA A) := by
  have wA := w
  obtain ⟨A', eA⟩ : ∃ X, X = drA A := ⟨_, rfl⟩
  have fA : ∀ k, k ≠ 9 → A' k = A k := fun k hk => by rw [eA]; exact upA_n hk
  rw [← eA]
  refine ⟨?_, (Wf2_c (fun k hk => fA k (by omega)) wA.2.1), (Wf3_c (fun k hk => fA k (by omega)) wA.1.1 wA.2.2.1), (Wf4_c (fun k hk => fA k (by omega)) wA.1 wA.2.2.2.1), (Wf5_c (fun k hk => fA k (by omega)) wA.1.2.2.2.2.1 wA.2.2.2.2)⟩
  obtain ⟨v0, v1, v2, v3, v4, v5, v6, v7, v8, v9, v10, v11⟩ := w.1
  unfold Wf1
  rw [fA 0 (by omega), fA 1 (by omega), fA 2 (by omega), fA 3 (by omega), fA 4 (by omega), fA 5 (by omega), fA 6 (by omega), fA 7 (by omega), fA 8 (by omega), fA 10 (by omega), fA 11 (by omega), show A' 9 = (A 9 * 631 + 497) % 30881 by rw [eA, drA, upA_s]]
  exact ⟨v0, v1, v2, v3, v4, v5, v6, v7, v8, Nat.mod_lt _ (by decide), v10, v11⟩
theorem up8_W {A : Nat → Nat} {v : Nat} (w : Wf A) (hv : v ≤ 9999) : Wf (upA A 8 v) := by
  have wA := w
  obtain ⟨A', eA⟩ : ∃ X, X = upA A 8 v := ⟨_, rfl⟩
  have fA : ∀ k, k ≠ 8 → A' k = A k := fun k hk => by rw [eA]; exact upA_n hk
  rw [← eA]
  refine ⟨?_, (Wf2_c (fun k hk => fA k (by omega)) wA.2.1), (Wf3_c (fun k hk => fA k (by omega)) wA.1.1 wA.2.2.1), (Wf4_c (fun k hk => fA k (by omega)) wA.1 wA.2.2.2.1), (Wf5_c (fun k hk => fA k (by omega)) wA.1.2.2.2.2.1 wA.2.2.2.2)⟩
  obtain ⟨v0, v1, v2, v3, v4, v5, v6, v7, v8, v9, v10, v11⟩ := w.1
  unfold Wf1
  rw [fA 0 (by omega), fA 1 (by omega), fA 2 (by omega), fA 3 (by omega), fA 4 (by omega), fA 5 (by omega), fA 6 (by omega), fA 7 (by omega), fA 9 (by omega), fA 10 (by omega), fA 11 (by omega), show A' 8 = v by rw [eA, upA_s]]
  exact ⟨v0, v1, v2, v3, v4, v5, v6, v7, hv, v9, v10, v11⟩
theorem p1_inv {g : (Nat → Nat) → Nat → Nat → Nat} {A : Nat → Nat} (hg : gB g) (w : Wf A) : Wf (p1A g A) ∧ p1A g A 10 ≤ 3168 ∧ ∀ k, pyK k → p1A g A k = A k := by
  have w1 : A 1 ≤ 4 := w.1.2.1
  obtain ⟨h1, h2, h3⟩ := pyR_inv hg (up10_W w) upA_s (A 1) (by rw [upA_n (by omega)]; exact Nat.le_refl _)
  refine ⟨h1, Nat.le_trans h2 (by omega), fun k hk => (h3 k hk).trans (upA_n (by unfold pyK at hk; omega))⟩
theorem p3_inv {g : (Nat → Nat) → Nat → Nat → Nat} {A : Nat → Nat} (hg : gB g) (w : Wf A) : Wf (p3A g A) ∧ ∀ k, pyK k → k ≠ 9 → p3A g A k = A k := by
  obtain ⟨h1, h2, h3⟩ := p1_inv hg w
  exact ⟨dr_W (dr_W h1), fun k hk h9 => by rw [p3A, drA, upA_n h9, drA, upA_n h9]; exact h3 k hk⟩
/-- what telling leaves: all but the book and what is kept -/
def tlK (tl : (Nat → Nat) → Nat → Nat → Nat → Nat) : Prop := ∀ A h r, Wf A → h < 8 → r < A 1 → Wf (tl A h r) ∧ ∀ k, k ≠ 11 → k < 1769 → ¬ (12 ≤ k ∧ k < 20) → tl A h r k = A k
theorem tlK_1 : tlK tlA := fun A h r w hh hr => ⟨tl_W w hh hr, fun k h1 h2 h3 => tl_o (by omega)⟩
theorem tlK_0 : tlK tkA := fun A h r w hh hr => ⟨tk_W w hh hr, fun k h1 h2 h3 => tk_o (by omega)⟩
theorem hr_inv {tl : (Nat → Nat) → Nat → Nat → Nat → Nat} {f : (Nat → Nat) → Nat → Nat → Int32} {hs s : Nat} {A : Nat → Nat} (ht : tlK tl) (w : Wf A) (hr : s < A 1) : ∀ j, j ≤ 8 → Wf (hrN tl f hs s A j) ∧ ∀ k, k ≠ 11 → k < 1769 → ¬ (12 ≤ k ∧ k < 20) → hrN tl f hs s A j k = A k
  | 0, _ => ⟨w, fun _ _ _ _ => rfl⟩
  | j + 1, hj => by
    obtain ⟨h1, h2⟩ := hr_inv (f := f) (hs := hs) ht w hr j (by omega)
    rw [hrN]
    unfold hrB
    split
    · obtain ⟨k1, k2⟩ := ht _ j s h1 (by omega) (by rw [h2 1 (by omega) (by omega) (by omega)]; exact hr)
      exact ⟨k1, fun k a1 a2 a3 => (k2 k a1 a2 a3).trans (h2 k a1 a2 a3)⟩
    · exact ⟨h1, h2⟩
theorem ps_inv {tl : (Nat → Nat) → Nat → Nat → Nat → Nat} {f : (Nat → Nat) → Nat → Nat → Int32} {g : (Nat → Nat) → Nat → Nat → Nat} {A : Nat → Nat} (ht : tlK tl) (hg : gB g) (w : Wf A) (h8 : A 8 < 9999) : Wf (psA tl f g A) ∧ (∀ k, k < 8 ∨ (32 ≤ k ∧ k < 1769) → psA tl f g A k = A k) ∧ psA tl f g A 8 = A 8 + 1 ∧ psA tl f g A 10 ≤ 3168 := by
  obtain ⟨h1, h2, h3⟩ := p1_inv hg w
  obtain ⟨k1, k2⟩ := p3_inv hg w
  have w1 : A 1 ≤ 4 := w.1.2.1
  have e10 : p3A g A 10 = p1A g A 10 := by rw [p3A, drA, upA_n (by omega), drA, upA_n (by omega)]
  unfold psA p4A
  by_cases c : A 1 = 0
  · rw [if_pos c]
    refine ⟨up8_W h1 (by omega), fun k hk => ?_, upA_s, ?_⟩
    · rw [upA_n (by omega)]
      exact h3 k (by unfold pyK; omega)
    · rw [upA_n (by omega)]
      exact h2
  · rw [if_neg c]
    have hs : psR g A < p3A g A 1 := by
      rw [k2 1 (by unfold pyK; omega) (by omega)]
      exact Nat.mod_lt _ (by omega)
    obtain ⟨l1, l2⟩ := hr_inv (f := f) (hs := psH g A) ht k1 hs 8 (by omega)
    refine ⟨up8_W l1 (by omega), fun k hk => ?_, upA_s, ?_⟩
    · rw [upA_n (by omega), l2 k (by omega) (by omega) (by omega)]
      exact k2 k (by unfold pyK; omega) (by omega)
    · rw [upA_n (by omega), l2 10 (by omega) (by omega) (by omega), e10]
      exact h2
section Pass
variable {sc : Sc} {d : Nat} {J : Nat → Nat → Int64} {T : Option Nat} {M : Nat → Nat → Int32} {tx : Nat} {f : (Nat → Nat) → Nat → Nat → Int32} {g : (Nat → Nat) → Nat → Nat → Nat}
theorem sp_drawa {I : Nat → Nat → Int32} {A : Nat → Nat} (w : Wf A) (t : Twn I 1 2 3 4 5 6 7 8 9 A) : ∃ I', (∀ c k, c ≠ 1 → I' c k = I c k) ∧ Twn I' 1 2 3 4 5 6 7 8 9 (drA A) ∧ ∀ Q, Rn sc d 106 0 [some (.ref 1), none] [] (K0, I, J, R1 T) Q = Q (some (.int (nI (A 9)))) (K0, I', J, R1 T) := by
  have w0 : A 0 ≤ 12 := w.1.1
  have w1 : A 1 ≤ 4 := w.1.2.1
  have w9 : A 9 < 30881 := w.1.2.2.2.2.2.2.2.2.2.1
  obtain ⟨I1, eI⟩ : ∃ X, X = uI I 1 12 (nI ((A 9 * 631 + 497) % 30881)) := ⟨_, rfl⟩
  have fI : ∀ c k, c ≠ 1 ∨ k ≠ 12 → I1 c k = I c k := fun c k hk => by rw [eI]; exact uI_n hk
  have fA : ∀ k, k ≠ 9 → drA A k = A k := fun k hk => upA_n hk
  have f1 : drA A 1 = A 1 := fA 1 (by omega)
  refine ⟨I1, fun c k hc => fI c k (by omega), ⟨(fun h hh => by rw [fI _ _ (by omega), fA _ (by omega)]; exact tw_rooms t hh), (fun h hh => by rw [fI _ _ (by omega), fA _ (by omega)]; exact tw_income t hh), (fun h hh => by rw [fI _ _ (by omega), bes_c (fun k hk => fA k (by omega)) w0]; exact tw_beside t hh), (fun r hr => by rw [f1] at hr; rw [fI _ _ (by omega), fA _ (by omega)]; exact tw_truth t hr), (fun r hr => by rw [f1] at hr; rw [fI _ _ (by omega), fA _ (by omega)]; exact tw_purse t hr), (fun r hr => by rw [f1] at hr; rw [fI _ _ (by omega), fA _ (by omega)]; exact tw_told t hr), (fun r hr => by rw [f1] at hr; rw [fI _ _ (by omega), kpr_c (fun h hh => fA _ (by omega))]; exact tw_keepers t hr), (fun h hh => by rw [fI _ _ (by omega), fA _ (by omega)]; exact tw_pages t hh), (by rw [fI _ _ (by omega), fA _ (by omega)]; exact tw_written t), (by rw [fI _ _ (by omega), fA _ (by omega)]; exact tw_roads t), (by rw [fI _ _ (by omega), fA _ (by omega)]; exact tw_rumours t), (by rw [fI _ _ (by omega), fA _ (by omega)]; exact tw_day t), ?_, (by rw [fI _ _ (by omega), fA _ (by omega)]; exact tw_paid t), (by rw [fI _ _ (by omega), fA _ (by omega)]; exact tw_texts t), (by rw [fI _ _ (by omega), fA _ (by omega)]; exact tw_ruling t)⟩, fun Q => ?_⟩
  · rw [eI, uI_s, drA, upA_s]
  · rw [eI]
    simp (disch := first | assumption | omega | decide) only [x106a_0, x106a_1, x106a_2, x106a_3, x106a_4, x106a_5, x106a_6, x106a_7, x106a_8, x106a_9, x106a_10, x106a_11, x106a_12, x106a_13, x106a_14, ↓reduceIte, Option.toList, List.nil_append, List.cons_append, nI_add, pk_mul, n_and, n_or, n_xor, nI_leI, nI_ltI, nI_eq, n_z, uI_s, uI_n, bI_n0, bI_n1, bT, bF, if_true, if_false, not_true, not_false_eq_true, pk_div, pk_rem, Nat.reduceEqDiff, Nat.reduceLeDiff, Nat.reduceLT, Nat.reduceAdd, Nat.reduceMul, Nat.reduceSub, Nat.not_lt_zero, Nat.zero_le, reduceCtorEq, ite_self, n_rem, and_self, and_true, true_and, and_false, false_and, tw_x t]
theorem sp_payHa {r : Nat} (hC : RntC M tx g) (hg : gB g) {A : Nat → Nat} (w : Wf A) (hr : r < A 1) (hp : A 10 + 99 * 8 < 1000000) {I : Nat → Nat → Int32} (t : Twn I 1 2 3 4 5 6 7 8 9 A) (eM : txI I = M) : ∃ I', (∀ c k, c ≠ 69 ∧ c ≠ 70 ∧ (c < 1 ∨ 9 < c) → I' c k = I c k) ∧ Twn I' 1 2 3 4 5 6 7 8 9 (pyH g r A 8) ∧ ∀ Q, Rn sc (d + 6) 2 11 [some (.ref 71), some (.ref 1), some (LwC tx), some (.int (nI r)), some (.int (nI 0)), none] [] (K0, I, J, R1 T) Q = Rn sc (d + 6) 2 11 [some (.ref 71), some (.ref 1), some (LwC tx), some (.int (nI r)), some (.int (nI 8)), none] [] (K0, I', J, R1 T) Q := by
  have w1 : A 1 ≤ 4 := w.1.2.1
  obtain ⟨I', ⟨h1, h2⟩, h3⟩ := iterE (fun j I' => (∀ c k, c ≠ 69 ∧ c ≠ 70 ∧ (c < 1 ∨ 9 < c) → I' c k = I c k) ∧ Twn I' 1 2 3 4 5 6 7 8 9 (pyH g r A j)) (fun j I' => fun Q => Rn sc (d + 6) 2 11 [some (.ref 71), some (.ref 1), some (LwC tx), some (.int (nI r)), some (.int (nI j)), none] [] (K0, I', J, R1 T) Q) 8 (by
    rintro j I1 hj ⟨f1, t1⟩
    obtain ⟨wj, pj, kj⟩ := pyH_inv hg w hr hp j (by omega)
    have e1 : pyH g r A j 1 = A 1 := kj 1 (Or.inl (by omega))
    have eM1 : txI I1 = M := (txI_c (fun c k hc => f1 c k (by omega))).trans eM
    have sk := fun Q => sp_keepsCa (Q := Q) (sc := sc) (d := d + 5) (J := J) (T := T) hj (show r < pyH g r A j 1 by omega) (by omega) t1
    rw [pyH]
    unfold pyB
    by_cases c : pyH g r A j (12 + j) / 2 ^ r % 2 = 1
    · obtain ⟨I2, f2, t2, q2⟩ := sp_payCa (sc := sc) (d := d) (J := J) (T := T) hC wj hj (show r < pyH g r A j 1 by omega) (hg _ _ _ wj hj (by omega)) t1 eM1
      refine ⟨I2, ⟨fun c k hc => (f2 c k (by omega)).trans (f1 c k hc), by rw [if_pos c]; exact t2⟩, funext fun Q => ?_⟩
      show Rn _ _ _ _ _ _ _ _ = Rn _ _ _ _ _ _ _ _
      rw [x2a_11]
      rcases lw_or tx with ⟨a, e⟩ | e <;> rw [e] at q2 ⊢ <;> simp (disch := first | assumption | omega | decide) only [x2a_0, x2a_1, x2a_2, x2a_3, x2a_4, x2a_6, x2a_7, x2a_8, x2a_9, x2a_10, x2a_12, x2a_13, x2a_14, x2a_15, x2a_16, x2a_17, x2a_18, x2a_19, x2a_20, x2a_21r, x2a_21n, x2a_22, x2a_23, x2a_24r, x2a_24n, x2a_25, x2a_26, x2a_27, x2a_28, x2a_29, x2a_30, x2a_31, x2a_32, x2a_33, x2a_34, x2a_35, x2a_36, x2a_37, x2a_38, x2a_39, x2a_40, x2a_41, x2a_42, x2a_43, x2a_44, x2a_45, x2a_46, x2a_47, x2a_48, x2a_49, x2a_50, x2a_51, x2a_52, x2a_53, x2a_54, x2a_55, x2a_56, x2a_57, x2a_58, x2a_59, x2a_60, x2a_62, x2a_63, x2a_64, x2a_65, x2a_66, x2a_67, x2a_68, x2a_69, x2a_70, x2a_71, x2a_72, x2a_73r, x2a_73n, x2a_74, x2a_75, x2a_76r, x2a_76n, x2a_77, x2a_78, x2a_79, x2a_80, x2a_81, x2a_82, x2a_83, x2a_84, x2a_85, x2a_86, x2a_87, x2a_88, x2a_89, x2a_90, ↓reduceIte, Option.toList, List.nil_append, List.cons_append, nI_add, pk_mul, n_and, n_or, n_xor, nI_leI, nI_ltI, nI_eq, n_z, uI_s, uI_n, bI_n0, bI_n1, bT, bF, if_true, if_false, not_true, not_false_eq_true, pk_div, pk_rem, Nat.reduceEqDiff, Nat.reduceLeDiff, Nat.reduceLT, Nat.reduceAdd, Nat.reduceMul, Nat.reduceSub, Nat.not_lt_zero, Nat.zero_le, reduceCtorEq, ite_self, n_rem, and_self, and_true, true_and, and_false, false_and, Nat.not_le.mpr hj, sk, c, q2]
    · refine ⟨I1, ⟨f1, by rw [if_neg c]; exact t1⟩, funext fun Q => ?_⟩
      show Rn _ _ _ _ _ _ _ _ = Rn _ _ _ _ _ _ _ _
      rw [x2a_11]
      rcases lw_or tx with ⟨a, e⟩ | e <;> rw [e] <;> simp (disch := first | assumption | omega | decide) only [x2a_0, x2a_1, x2a_2, x2a_3, x2a_4, x2a_6, x2a_7, x2a_8, x2a_9, x2a_10, x2a_12, x2a_13, x2a_14, x2a_15, x2a_16, x2a_17, x2a_18, x2a_19, x2a_20, x2a_21r, x2a_21n, x2a_22, x2a_23, x2a_24r, x2a_24n, x2a_25, x2a_26, x2a_27, x2a_28, x2a_29, x2a_30, x2a_31, x2a_32, x2a_33, x2a_34, x2a_35, x2a_36, x2a_37, x2a_38, x2a_39, x2a_40, x2a_41, x2a_42, x2a_43, x2a_44, x2a_45, x2a_46, x2a_47, x2a_48, x2a_49, x2a_50, x2a_51, x2a_52, x2a_53, x2a_54, x2a_55, x2a_56, x2a_57, x2a_58, x2a_59, x2a_60, x2a_62, x2a_63, x2a_64, x2a_65, x2a_66, x2a_67, x2a_68, x2a_69, x2a_70, x2a_71, x2a_72, x2a_73r, x2a_73n, x2a_74, x2a_75, x2a_76r, x2a_76n, x2a_77, x2a_78, x2a_79, x2a_80, x2a_81, x2a_82, x2a_83, x2a_84, x2a_85, x2a_86, x2a_87, x2a_88, x2a_89, x2a_90, ↓reduceIte, Option.toList, List.nil_append, List.cons_append, nI_add, pk_mul, n_and, n_or, n_xor, nI_leI, nI_ltI, nI_eq, n_z, uI_s, uI_n, bI_n0, bI_n1, bT, bF, if_true, if_false, not_true, not_false_eq_true, pk_div, pk_rem, Nat.reduceEqDiff, Nat.reduceLeDiff, Nat.reduceLT, Nat.reduceAdd, Nat.reduceMul, Nat.reduceSub, Nat.not_lt_zero, Nat.zero_le, reduceCtorEq, ite_self, n_rem, and_self, and_true, true_and, and_false, false_and, Nat.not_le.mpr hj, sk, c]) I ⟨fun _ _ _ => rfl, t⟩
  exact ⟨I', h1, h2, fun Q => congrFun h3 Q⟩
theorem sp_drawb {I : Nat → Nat → Int32} {A : Nat → Nat} (w : Wf A) (t : Twn I 19 20 21 22 23 24 25 26 27 A) : ∃ I', (∀ c k, c ≠ 19 → I' c k = I c k) ∧ Twn I' 19 20 21 22 23 24 25 26 27 (drA A) ∧ ∀ Q, Rn sc d 106 0 [some (.ref 19), none] [] (K0, I, J, R1 T) Q = Q (some (.int (nI (A 9)))) (K0, I', J, R1 T) := by
  have w0 : A 0 ≤ 12 := w.1.1
  have w1 : A 1 ≤ 4 := w.1.2.1
  have w9 : A 9 < 30881 := w.1.2.2.2.2.2.2.2.2.2.1
  obtain ⟨I1, eI⟩ : ∃ X, X = uI I 19 12 (nI ((A 9 * 631 + 497) % 30881)) := ⟨_, rfl⟩
  have fI : ∀ c k, c ≠ 19 ∨ k ≠ 12 → I1 c k = I c k := fun c k hk => by rw [eI]; exact uI_n hk
  have fA : ∀ k, k ≠ 9 → drA A k = A k := fun k hk => upA_n hk
  have f1 : drA A 1 = A 1 := fA 1 (by omega)
  refine ⟨I1, fun c k hc => fI c k (by omega), ⟨(fun h hh => by rw [fI _ _ (by omega), fA _ (by omega)]; exact tw_rooms t hh), (fun h hh => by rw [fI _ _ (by omega), fA _ (by omega)]; exact tw_income t hh), (fun h hh => by rw [fI _ _ (by omega), bes_c (fun k hk => fA k (by omega)) w0]; exact tw_beside t hh), (fun r hr => by rw [f1] at hr; rw [fI _ _ (by omega), fA _ (by omega)]; exact tw_truth t hr), (fun r hr => by rw [f1] at hr; rw [fI _ _ (by omega), fA _ (by omega)]; exact tw_purse t hr), (fun r hr => by rw [f1] at hr; rw [fI _ _ (by omega), fA _ (by omega)]; exact tw_told t hr), (fun r hr => by rw [f1] at hr; rw [fI _ _ (by omega), kpr_c (fun h hh => fA _ (by omega))]; exact tw_keepers t hr), (fun h hh => by rw [fI _ _ (by omega), fA _ (by omega)]; exact tw_pages t hh), (by rw [fI _ _ (by omega), fA _ (by omega)]; exact tw_written t), (by rw [fI _ _ (by omega), fA _ (by omega)]; exact tw_roads t), (by rw [fI _ _ (by omega), fA _ (by omega)]; exact tw_rumours t), (by rw [fI _ _ (by omega), fA _ (by omega)]; exact tw_day t), ?_, (by rw [fI _ _ (by omega), fA _ (by omega)]; exact tw_paid t), (by rw [fI _ _ (by omega), fA _ (by omega)]; exact tw_texts t), (by rw [fI _ _ (by omega), fA _ (by omega)]; exact tw_ruling t)⟩, fun Q => ?_⟩
  · rw [eI, uI_s, drA, upA_s]
  · rw [eI]
    simp (disch := first | assumption | omega | decide) only [x106b_0, x106b_1, x106b_2, x106b_3, x106b_4, x106b_5, x106b_6, x106b_7, x106b_8, x106b_9, x106b_10, x106b_11, x106b_12, x106b_13, x106b_14, ↓reduceIte, Option.toList, List.nil_append, List.cons_append, nI_add, pk_mul, n_and, n_or, n_xor, nI_leI, nI_ltI, nI_eq, n_z, uI_s, uI_n, bI_n0, bI_n1, bT, bF, if_true, if_false, not_true, not_false_eq_true, pk_div, pk_rem, Nat.reduceEqDiff, Nat.reduceLeDiff, Nat.reduceLT, Nat.reduceAdd, Nat.reduceMul, Nat.reduceSub, Nat.not_lt_zero, Nat.zero_le, reduceCtorEq, ite_self, n_rem, and_self, and_true, true_and, and_false, false_and, tw_x t]
theorem sp_payHb {r : Nat} (hC : RntC M tx g) (hg : gB g) {A : Nat → Nat} (w : Wf A) (hr : r < A 1) (hp : A 10 + 99 * 8 < 1000000) {I : Nat → Nat → Int32} (t : Twn I 19 20 21 22 23 24 25 26 27 A) (eM : txI I = M) : ∃ I', (∀ c k, c ≠ 69 ∧ c ≠ 70 ∧ (c < 19 ∨ 27 < c) → I' c k = I c k) ∧ Twn I' 19 20 21 22 23 24 25 26 27 (pyH g r A 8) ∧ ∀ Q, Rn sc (d + 6) 2 11 [some (.ref 71), some (.ref 19), some (LwC tx), some (.int (nI r)), some (.int (nI 0)), none] [] (K0, I, J, R1 T) Q = Rn sc (d + 6) 2 11 [some (.ref 71), some (.ref 19), some (LwC tx), some (.int (nI r)), some (.int (nI 8)), none] [] (K0, I', J, R1 T) Q := by
  have w1 : A 1 ≤ 4 := w.1.2.1
  obtain ⟨I', ⟨h1, h2⟩, h3⟩ := iterE (fun j I' => (∀ c k, c ≠ 69 ∧ c ≠ 70 ∧ (c < 19 ∨ 27 < c) → I' c k = I c k) ∧ Twn I' 19 20 21 22 23 24 25 26 27 (pyH g r A j)) (fun j I' => fun Q => Rn sc (d + 6) 2 11 [some (.ref 71), some (.ref 19), some (LwC tx), some (.int (nI r)), some (.int (nI j)), none] [] (K0, I', J, R1 T) Q) 8 (by
    rintro j I1 hj ⟨f1, t1⟩
    obtain ⟨wj, pj, kj⟩ := pyH_inv hg w hr hp j (by omega)
    have e1 : pyH g r A j 1 = A 1 := kj 1 (Or.inl (by omega))
    have eM1 : txI I1 = M := (txI_c (fun c k hc => f1 c k (by omega))).trans eM
    have sk := fun Q => sp_keepsCb (Q := Q) (sc := sc) (d := d + 5) (J := J) (T := T) hj (show r < pyH g r A j 1 by omega) (by omega) t1
    rw [pyH]
    unfold pyB
    by_cases c : pyH g r A j (12 + j) / 2 ^ r % 2 = 1
    · obtain ⟨I2, f2, t2, q2⟩ := sp_payCb (sc := sc) (d := d) (J := J) (T := T) hC wj hj (show r < pyH g r A j 1 by omega) (hg _ _ _ wj hj (by omega)) t1 eM1
      refine ⟨I2, ⟨fun c k hc => (f2 c k (by omega)).trans (f1 c k hc), by rw [if_pos c]; exact t2⟩, funext fun Q => ?_⟩
      show Rn _ _ _ _ _ _ _ _ = Rn _ _ _ _ _ _ _ _
      rw [x2b_11]
      rcases lw_or tx with ⟨a, e⟩ | e <;> rw [e] at q2 ⊢ <;> simp (disch := first | assumption | omega | decide) only [x2b_0, x2b_1, x2b_2, x2b_3, x2b_4, x2b_6, x2b_7, x2b_8, x2b_9, x2b_10, x2b_12, x2b_13, x2b_14, x2b_15, x2b_16, x2b_17, x2b_18, x2b_19, x2b_20, x2b_21r, x2b_21n, x2b_22, x2b_23, x2b_24r, x2b_24n, x2b_25, x2b_26, x2b_27, x2b_28, x2b_29, x2b_30, x2b_31, x2b_32, x2b_33, x2b_34, x2b_35, x2b_36, x2b_37, x2b_38, x2b_39, x2b_40, x2b_41, x2b_42, x2b_43, x2b_44, x2b_45, x2b_46, x2b_47, x2b_48, x2b_49, x2b_50, x2b_51, x2b_52, x2b_53, x2b_54, x2b_55, x2b_56, x2b_57, x2b_58, x2b_59, x2b_60, x2b_62, x2b_63, x2b_64, x2b_65, x2b_66, x2b_67, x2b_68, x2b_69, x2b_70, x2b_71, x2b_72, x2b_73r, x2b_73n, x2b_74, x2b_75, x2b_76r, x2b_76n, x2b_77, x2b_78, x2b_79, x2b_80, x2b_81, x2b_82, x2b_83, x2b_84, x2b_85, x2b_86, x2b_87, x2b_88, x2b_89, x2b_90, ↓reduceIte, Option.toList, List.nil_append, List.cons_append, nI_add, pk_mul, n_and, n_or, n_xor, nI_leI, nI_ltI, nI_eq, n_z, uI_s, uI_n, bI_n0, bI_n1, bT, bF, if_true, if_false, not_true, not_false_eq_true, pk_div, pk_rem, Nat.reduceEqDiff, Nat.reduceLeDiff, Nat.reduceLT, Nat.reduceAdd, Nat.reduceMul, Nat.reduceSub, Nat.not_lt_zero, Nat.zero_le, reduceCtorEq, ite_self, n_rem, and_self, and_true, true_and, and_false, false_and, Nat.not_le.mpr hj, sk, c, q2]
    · refine ⟨I1, ⟨f1, by rw [if_neg c]; exact t1⟩, funext fun Q => ?_⟩
      show Rn _ _ _ _ _ _ _ _ = Rn _ _ _ _ _ _ _ _
      rw [x2b_11]
      rcases lw_or tx with ⟨a, e⟩ | e <;> rw [e] <;> simp (disch := first | assumption | omega | decide) only [x2b_0, x2b_1, x2b_2, x2b_3, x2b_4, x2b_6, x2b_7, x2b_8, x2b_9, x2b_10, x2b_12, x2b_13, x2b_14, x2b_15, x2b_16, x2b_17, x2b_18, x2b_19, x2b_20, x2b_21r, x2b_21n, x2b_22, x2b_23, x2b_24r, x2b_24n, x2b_25, x2b_26, x2b_27, x2b_28, x2b_29, x2b_30, x2b_31, x2b_32, x2b_33, x2b_34, x2b_35, x2b_36, x2b_37, x2b_38, x2b_39, x2b_40, x2b_41, x2b_42, x2b_43, x2b_44, x2b_45, x2b_46, x2b_47, x2b_48, x2b_49, x2b_50, x2b_51, x2b_52, x2b_53, x2b_54, x2b_55, x2b_56, x2b_57, x2b_58, x2b_59, x2b_60, x2b_62, x2b_63, x2b_64, x2b_65, x2b_66, x2b_67, x2b_68, x2b_69, x2b_70, x2b_71, x2b_72, x2b_73r, x2b_73n, x2b_74, x2b_75, x2b_76r, x2b_76n, x2b_77, x2b_78, x2b_79, x2b_80, x2b_81, x2b_82, x2b_83, x2b_84, x2b_85, x2b_86, x2b_87, x2b_88, x2b_89, x2b_90, ↓reduceIte, Option.toList, List.nil_append, List.cons_append, nI_add, pk_mul, n_and, n_or, n_xor, nI_leI, nI_ltI, nI_eq, n_z, uI_s, uI_n, bI_n0, bI_n1, bT, bF, if_true, if_false, not_true, not_false_eq_true, pk_div, pk_rem, Nat.reduceEqDiff, Nat.reduceLeDiff, Nat.reduceLT, Nat.reduceAdd, Nat.reduceMul, Nat.reduceSub, Nat.not_lt_zero, Nat.zero_le, reduceCtorEq, ite_self, n_rem, and_self, and_true, true_and, and_false, false_and, Nat.not_le.mpr hj, sk, c]) I ⟨fun _ _ _ => rfl, t⟩
  exact ⟨I', h1, h2, fun Q => congrFun h3 Q⟩
end Pass
