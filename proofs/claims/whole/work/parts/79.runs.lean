/-! the law runs -/
theorem law_runs (L : Nat) (xs : Nat → Int32) (hL : L ≤ 3072) : ∃ (n : Nat) (s' : Mm), run (L, xs) n 1000 319 0 (padL 4 (entL [.ref 1000])) [] mm0 = some (some (.int 1), s') ∧ (s'.1.length ≤ 600000 ∧ szK cnN s'.1 ≤ 7302250) := by
  have h : Rn (L, xs) 1000 319 0 [some (.ref 1000), none, none, none] [] mm0 (fun r s' => r = some (.int 1) ∧ s'.1 = K0) := by
    have e := law_head (sc := (L, xs)) (d := 997) (Q := fun r s' => r = some (.int 1) ∧ s'.1 = K0)
    rw [e]
    exact law_loop (sc := (L, xs)) (d := 999) (show L < 2 ^ 30 by omega) (fun i _ => pairs_all) (L + 1) 0 _ _ none (show L < L + 1 + 0 by omega) (Nat.zero_le _) inv_0
  obtain ⟨n, r, s', e, er, es⟩ := h
  rw [er] at e
  refine ⟨n, s', e, ?_⟩
  rw [es]
  exact ⟨by decide, by decide +kernel⟩
