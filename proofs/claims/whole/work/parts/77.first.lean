/-! the start -/
def A0 : Nat → Nat := fun k => if k = 3 then 4294967295 else if k = 9 then 379 else if 32 ≤ k ∧ k < 40 then 2 else 0
theorem i0_40 : ∀ k, k < 40 → I0a 90 k = nI (A0 k) := by decide +kernel
set_option maxRecDepth 100000 in
theorem i0_x : ∃ X : Nat → Nat → Int32, (∀ k, X 90 k = 0) ∧ I0a = uI (uI (uI (uI (uI (uI (uI (uI (uI (uI X 90 9 (nI 379)) 90 3 (-1)) 90 32 (nI 2)) 90 33 (nI 2)) 90 34 (nI 2)) 90 35 (nI 2)) 90 36 (nI 2)) 90 37 (nI 2)) 90 38 (nI 2)) 90 39 (nI 2) := ⟨_, fun k => rfl, rfl⟩
theorem i0_90 (k : Nat) : I0a 90 k = nI (A0 k) := by
  by_cases h : k < 40
  · exact i0_40 k h
  · obtain ⟨X, hX, e⟩ := i0_x
    rw [e, uI_n (by omega), uI_n (by omega), uI_n (by omega), uI_n (by omega), uI_n (by omega), uI_n (by omega), uI_n (by omega), uI_n (by omega), uI_n (by omega), uI_n (by omega), hX]
    have : A0 k = 0 := by
      unfold A0
      rw [if_neg (by omega), if_neg (by omega), if_neg (by omega)]
    rw [this]
    rfl
theorem wf_0 : Wf A0 := by
  refine ⟨?_, ?_, ⟨fun j hj => absurd hj (Nat.not_lt_zero j), fun j i hi hj => absurd hj (Nat.not_lt_zero j)⟩, ⟨fun j hj => absurd hj (Nat.not_lt_zero j), fun j hj => absurd hj (Nat.not_lt_zero j), fun j hj => absurd hj (Nat.not_lt_zero j)⟩, fun j hj => absurd hj (Nat.not_lt_zero j)⟩
  · unfold Wf1
    decide +kernel
  · unfold Wf2
    decide +kernel
theorem bes_0 (h : Nat) : bes A0 h = 0 := rfl
theorem tw_0a : (∀ h, h < 8 → I0a 2 h = nI (A0 (32 + h))) ∧ (∀ h, h < 8 → I0a 3 h = nI (A0 (20 + h))) ∧ (∀ h, h < 8 → I0a 4 h = nI 0) ∧ (∀ i, i < 30 → I0a 9 i = nI (A0 (1769 + i))) ∧ I0a 1 8 = nI (A0 11) ∧ I0a 1 9 = nI (A0 0) ∧ I0a 1 10 = nI (A0 1) ∧ I0a 1 11 = nI (A0 8) ∧ I0a 1 12 = nI (A0 9) ∧ I0a 1 13 = nI (A0 10) ∧ I0a 1 14 = nI (A0 2) ∧ I0a 1 15 = nI (A0 3) := by decide +kernel
theorem tw_0b : (∀ h, h < 8 → I0a 11 h = nI (A0 (32 + h))) ∧ (∀ h, h < 8 → I0a 12 h = nI (A0 (20 + h))) ∧ (∀ h, h < 8 → I0a 13 h = nI 0) ∧ (∀ i, i < 30 → I0a 18 i = nI (A0 (1769 + i))) ∧ I0a 10 8 = nI (A0 11) ∧ I0a 10 9 = nI (A0 0) ∧ I0a 10 10 = nI (A0 1) ∧ I0a 10 11 = nI (A0 8) ∧ I0a 10 12 = nI (A0 9) ∧ I0a 10 13 = nI (A0 10) ∧ I0a 10 14 = nI (A0 2) ∧ I0a 10 15 = nI (A0 3) := by decide +kernel
theorem re_0 : I0a 28 1 = nI 0 ∧ I0a 28 2 = nI 0 ∧ I0a 30 1 = nI 0 ∧ I0a 30 2 = nI 0 ∧ I0a 32 2 = nI 0 ∧ I0a 32 4 = nI 0 ∧ I0a 32 8 = nI 0 ∧ I0a 39 2 = nI 0 ∧ I0a 39 4 = nI 0 ∧ I0a 39 8 = nI 0 ∧ I0a 67 1 = nI 0 ∧ I0a 89 4 = nI 0 ∧ I0a 67 2 = I0a 89 5 ∧ I0a 67 3 = I0a 89 6 ∧ I0a 89 23 = nI 1 := by decide +kernel
theorem inv_0 : Inv TXp (uC I0a 90 91 0 0 1799) J0a none := by
  obtain ⟨r1, r2, r3, r4, r5, r6, r7, r8, r9, r10, r11, r12, r13, r14, r15⟩ := re_0
  obtain ⟨a1, a2, a3, a4, a5, a6, a7, a8, a9, a10, a11, a12⟩ := tw_0a
  obtain ⟨b1, b2, b3, b4, b5, b6, b7, b8, b9, b10, b11, b12⟩ := tw_0b
  obtain ⟨I, eI⟩ : ∃ X, X = uC I0a 90 91 0 0 1799 := ⟨_, rfl⟩
  have f : ∀ c k, c ≠ 91 → I c k = I0a c k := fun c k hc => by rw [eI, uC_n (by omega)]
  rw [← eI]
  refine ⟨A0, A0, ⟨⟨fun h hh => (f _ _ (by omega)).trans (a1 h hh), fun h hh => (f _ _ (by omega)).trans (a2 h hh), fun h hh => (f _ _ (by omega)).trans (a3 h hh), fun r hr => absurd hr (Nat.not_lt_zero r), fun r hr => absurd hr (Nat.not_lt_zero r), fun r hr => absurd hr (Nat.not_lt_zero r), fun r hr => absurd hr (Nat.not_lt_zero r), fun i hi => (f _ _ (by omega)).trans (a4 i hi), (f _ _ (by omega)).trans a5, (f _ _ (by omega)).trans a6, (f _ _ (by omega)).trans a7, (f _ _ (by omega)).trans a8, (f _ _ (by omega)).trans a9, (f _ _ (by omega)).trans a10, (f _ _ (by omega)).trans a11, (f _ _ (by omega)).trans a12⟩, ⟨fun h hh => (f _ _ (by omega)).trans (b1 h hh), fun h hh => (f _ _ (by omega)).trans (b2 h hh), fun h hh => (f _ _ (by omega)).trans (b3 h hh), fun r hr => absurd hr (Nat.not_lt_zero r), fun r hr => absurd hr (Nat.not_lt_zero r), fun r hr => absurd hr (Nat.not_lt_zero r), fun r hr => absurd hr (Nat.not_lt_zero r), fun i hi => (f _ _ (by omega)).trans (b4 i hi), (f _ _ (by omega)).trans b5, (f _ _ (by omega)).trans b6, (f _ _ (by omega)).trans b7, (f _ _ (by omega)).trans b8, (f _ _ (by omega)).trans b9, (f _ _ (by omega)).trans b10, (f _ _ (by omega)).trans b11, (f _ _ (by omega)).trans b12⟩, ⟨0, by decide, (f _ _ (by omega)).trans r1, (f _ _ (by omega)).trans r2, fun j hj => absurd hj (Nat.not_lt_zero j)⟩, ⟨0, by decide, (f _ _ (by omega)).trans r3, (f _ _ (by omega)).trans r4, fun j hj => absurd hj (Nat.not_lt_zero j)⟩, ⟨(f _ _ (by omega)).trans r5, (f _ _ (by omega)).trans r6, (f _ _ (by omega)).trans r7, fun j hj => absurd hj (Nat.not_lt_zero j), fun j hj => absurd hj (Nat.not_lt_zero j), fun j hj => absurd hj (Nat.not_lt_zero j)⟩, ⟨(f _ _ (by omega)).trans r8, (f _ _ (by omega)).trans r9, (f _ _ (by omega)).trans r10, fun j hj => absurd hj (Nat.not_lt_zero j), fun j hj => absurd hj (Nat.not_lt_zero j), fun j hj => absurd hj (Nat.not_lt_zero j)⟩⟩, ⟨fun k hk => (f _ _ (by omega)).trans (i0_90 k), fun k hk => ?_, (f _ _ (by omega)).trans r15⟩, ⟨wf_0, wf_0, Nat.le_refl _⟩, ⟨⟨0, by decide, (f _ _ (by omega)).trans r11, (f _ _ (by omega)).trans r12, fun k hk => (by cases hk)⟩, ?_, ?_⟩, fun t ht => absurd ht (Nat.not_lt_zero t)⟩
  · rw [eI, uC_i (by omega), Nat.zero_add, Nat.sub_zero]
    exact i0_90 k
  · rw [f _ _ (by omega), f _ _ (by omega)]
    exact r13
  · rw [f _ _ (by omega), f _ _ (by omega)]
    exact r14
theorem k0_t : K0.take 105 = K0 := rfl
theorem law_head {sc : Sc} {d : Nat} {Q : Option Value → Mm → Prop} : Rn sc (d + 3) 319 0 [some (.ref 1000), none, none, none] [] mm0 Q = Rn sc (d + 3) 319 10 [some (.ref 1000), some (.ref 0), some (.ref 89), some (.int (nI 0))] [] (K0, uC I0a 90 91 0 0 1799, J0a, R1 none) Q := by
  rw [ct_head, y167_99, k0_t, R0a_eq, sp_copya]
  simp only [Option.toList, List.nil_append]
  rw [← k0_t, y167_100]
  simp only [Option.toList, List.nil_append]
  rw [y319_7, k0_t, x319_8, x319_9]
