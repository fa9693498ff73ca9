theorem nthO_eq {α : Type} : ∀ (l : List α) (i : Nat), nthO l i = l[i]?
  | [], i => by simp [nthO]
  | a :: t, 0 => by simp [nthO]
  | a :: t, i + 1 => by simp [nthO, nthO_eq t i]
section First
variable {sc : Sc} {mi d : Nat} {r : Option Value} {s' : Mm}
theorem run_inv {n i : Nat} {ls : Lo} {st : List Value} {s : Mm} (h : run sc (n + 1) d mi i ls st s = some (r, s')) : ∃ ei, at_ mi i = some ei ∧ ((ei.1 = 0 ∧ ∃ o, st1 sc ei i ls st s = some o ∧ run sc n d mi o.1 o.2.1 o.2.2.1 o.2.2.2 = some (r, s')) ∨ (ei.1 = 1 ∧ ∃ d' mj na kind rest as rr v s1, d = d' + 1 ∧ ei.2.2.2.2.1 = mj :: na :: kind :: rest ∧ popN na [] st = some (as, rr) ∧ ((rr.map fun v => v.category).sum ≤ 8 ∧ rcv s kind (mCi mj) as = true ∧ (entL as).length ≤ mLo mj) ∧ run sc n d' mj 0 (padL (mLo mj) (entL as)) [] s = some (v, s1) ∧ run sc n d mi (i + 1) ls (v.toList ++ rr) s1 = some (r, s')) ∨ (ei.1 = 2 ∧ rtV (mRt mi) ei.2.1 st = some r ∧ s' = s)) := by
  simp only [run] at h
  cases ha : at_ mi i with
  | none => rw [ha] at h; cases h
  | some ei =>
    rw [ha] at h
    dsimp only at h
    refine ⟨ei, rfl, ?_⟩
    split at h
    · rename_i h0
      split at h
      · exact Or.inl ⟨h0, _, by assumption, h⟩
      · cases h
    · rename_i h0
      split at h
      · rename_i hops
        split at h
        · rename_i hpop
          split at h
          · rename_i hcond
            split at h
            · rename_i hcall
              exact Or.inr (Or.inl ⟨h0, _, _, _, _, _, _, _, _, _, rfl, hops, hpop, hcond, hcall, h⟩)
            · cases h
          · cases h
        · cases h
      · cases h
    · rename_i h0
      split at h
      · rename_i hrt
        obtain ⟨rfl, rfl⟩ := Prod.mk.inj (Option.some.inj h)
        exact Or.inr (Or.inr ⟨h0, hrt, rfl⟩)
      · cases h
    · cases h
end First
def mm0 : Mm := ([], fun _ _ => 0, fun _ _ => 0, fun _ _ => none)
