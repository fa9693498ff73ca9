/-! the machine of numbers as equations: where it goes on, it goes on; a call is what is called, then what comes behind it -/
def Rn (sc : Sc) (d mi i : Nat) (ls : Lo) (st : List Value) (s : Mm) (Q : Option Value → Mm → Prop) : Prop := ∃ (n : Nat) (r : Option Value) (s' : Mm), run sc n d mi i ls st s = some (r, s') ∧ Q r s'
theorem run_up (sc : Sc) : ∀ (n d mi i : Nat) (ls : Lo) (st : List Value) (s : Mm) (x : Option Value × Mm), run sc n d mi i ls st s = some x → run sc (n + 1) d mi i ls st s = some x := by
  intro n
  induction n with
  | zero => intro d mi i ls st s x h; cases h
  | succ n ih =>
    intro d mi i ls st s x h
    obtain ⟨r, s'⟩ := x
    obtain ⟨ei, ha, hc⟩ := run_inv h
    obtain ⟨tag, ins, pc, len, ops, kc⟩ := ei
    rcases hc with ⟨h0, o, hst, h⟩ | ⟨h0, d', mj, na, kind, rest, as, rr, v, s1, rfl, hops, hpop, hcond, hcall, h⟩ | ⟨h0, hrt, rfl⟩
    · have h0 : tag = 0 := h0
      subst h0
      have := ih _ _ _ _ _ _ _ h
      simp only [run, ha, hst] at this ⊢
      exact this
    · have h0 : tag = 1 := h0
      subst h0
      have hops : ops = mj :: na :: kind :: rest := hops
      subst hops
      have h1 := ih _ _ _ _ _ _ _ hcall
      have h2 := ih _ _ _ _ _ _ _ h
      rw [run]
      simp only [ha, hpop, if_pos hcond, h1]
      exact h2
    · have h0 : tag = 2 := h0
      subst h0
      simp only [run, ha, hrt]
theorem run_le {sc : Sc} {n n' d mi i : Nat} {ls : Lo} {st : List Value} {s : Mm} {x : Option Value × Mm} (h : run sc n d mi i ls st s = some x) (hl : n ≤ n') : run sc n' d mi i ls st s = some x := by
  obtain ⟨k, rfl⟩ := Nat.le.dest hl
  clear hl
  induction k with
  | zero => exact h
  | succ k ih => exact run_up sc _ _ _ _ _ _ _ _ ih
section RnRules
variable {sc : Sc} {d mi i : Nat} {ls : Lo} {st : List Value} {s : Mm} {Q : Option Value → Mm → Prop} {e : Ea}
theorem Rn_step {o : Nat × Lo × List Value × Mm} (ha : at_ mi i = some e) (h0 : e.1 = 0) (hs : st1 sc e i ls st s = some o) : Rn sc d mi i ls st s Q = Rn sc d mi o.1 o.2.1 o.2.2.1 o.2.2.2 Q := by
  obtain ⟨tag, ins, pc, len, ops, kc⟩ := e
  have h0 : tag = 0 := h0
  subst h0
  apply propext
  constructor
  · rintro ⟨n, r, s', h, hq⟩
    cases n with
    | zero => cases h
    | succ n =>
      simp only [run, ha, hs] at h
      exact ⟨n, r, s', h, hq⟩
  · rintro ⟨n, r, s', h, hq⟩
    refine ⟨n + 1, r, s', ?_, hq⟩
    simp only [run, ha, hs]
    exact h
theorem Rn_call {mj na kind : Nat} {rest : List Nat} {as r : List Value} (ha : at_ mi i = some e) (h0 : e.1 = 1) (hops : e.2.2.2.2.1 = mj :: na :: kind :: rest) (hpop : popN na [] st = some (as, r)) (hcat : (r.map fun v => v.category).sum ≤ 8) (hrcv : rcv s kind (mCi mj) as = true) (hle : (entL as).length ≤ mLo mj) : Rn sc (d + 1) mi i ls st s Q = Rn sc d mj 0 (padL (mLo mj) (entL as)) [] s (fun v s1 => Rn sc (d + 1) mi (i + 1) ls (v.toList ++ r) s1 Q) := by
  obtain ⟨tag, ins, pc, len, ops, kc⟩ := e
  have h0 : tag = 1 := h0
  subst h0
  have hops : ops = mj :: na :: kind :: rest := hops
  subst hops
  have hcond : (r.map fun v => v.category).sum ≤ 8 ∧ rcv s kind (mCi mj) as = true ∧ (entL as).length ≤ mLo mj := ⟨hcat, hrcv, hle⟩
  apply propext
  constructor
  · rintro ⟨n, v, s', h, hq⟩
    cases n with
    | zero => cases h
    | succ n =>
      rw [run] at h
      simp only [ha, hpop, if_pos hcond] at h
      cases hc : run sc n d mj 0 (padL (mLo mj) (entL as)) [] s with
      | none => rw [hc] at h; cases h
      | some x =>
        rw [hc] at h
        exact ⟨n, x.1, x.2, hc, n, v, s', h, hq⟩
  · rintro ⟨n, v, s1, hc, n2, w, s', h, hq⟩
    refine ⟨max n n2 + 1, w, s', ?_, hq⟩
    rw [run]
    simp only [ha, hpop, if_pos hcond, run_le hc (Nat.le_max_left n n2)]
    exact run_le h (Nat.le_max_right n n2)
theorem Rn_ret {v : Option Value} (ha : at_ mi i = some e) (h0 : e.1 = 2) (hrt : rtV (mRt mi) e.2.1 st = some v) : Rn sc d mi i ls st s Q = Q v s := by
  obtain ⟨tag, ins, pc, len, ops, kc⟩ := e
  have h0 : tag = 2 := h0
  subst h0
  apply propext
  constructor
  · rintro ⟨n, r, s', h, hq⟩
    cases n with
    | zero => cases h
    | succ n =>
      simp only [run, ha, hrt] at h
      obtain ⟨rfl, rfl⟩ := Prod.mk.inj (Option.some.inj h)
      exact hq
  · intro hq
    exact ⟨1, v, s, by simp only [run, ha, hrt], hq⟩
theorem Rn_if {c : Prop} [Decidable c] {o1 o2 : Nat × Lo × List Value × Mm} (ha : at_ mi i = some e) (h0 : e.1 = 0) (hs : st1 sc e i ls st s = if c then some o1 else some o2) : Rn sc d mi i ls st s Q = if c then Rn sc d mi o1.1 o1.2.1 o1.2.2.1 o1.2.2.2 Q else Rn sc d mi o2.1 o2.2.1 o2.2.2.1 o2.2.2.2 Q := by
  by_cases hc : c
  · rw [if_pos hc]
    rw [if_pos hc] at hs
    exact Rn_step ha h0 hs
  · rw [if_neg hc]
    rw [if_neg hc] at hs
    exact Rn_step ha h0 hs
theorem Rn_mono {Q' : Option Value → Mm → Prop} (h : Rn sc d mi i ls st s Q) (hq : ∀ r s', Q r s' → Q' r s') : Rn sc d mi i ls st s Q' := by
  obtain ⟨n, r, s', h1, h2⟩ := h
  exact ⟨n, r, s', h1, hq r s' h2⟩
end RnRules
/-- the memory's whole numbers with one place changed -/
def uI (I : Nat → Nat → Int32) (c k : Nat) (v : Int32) : Nat → Nat → Int32 := fun c' k' => if c' = c ∧ k' = k then v else I c' k'
def uJ (J : Nat → Nat → Int64) (c k : Nat) (v : Int64) : Nat → Nat → Int64 := fun c' k' => if c' = c ∧ k' = k then v else J c' k'
def uC (I : Nat → Nat → Int32) (c0 c1 sp dp n : Nat) : Nat → Nat → Int32 := fun c' k' => if c' = c1 ∧ dp ≤ k' ∧ k' < dp + n then I c0 (sp + (k' - dp)) else I c' k'
theorem hold_t {c : ClassFile.Cond} {x y : Int32} {P : Prop} [Decidable P] (h : hold c x y = decide P) {α : Type} {a a' : α} : (if hold c x y = true then a else a') = if P then a else a' := by
  rw [h]
  by_cases hp : P
  · rw [if_pos hp, if_pos (by simpa using hp)]
  · rw [if_neg hp, if_neg (by simpa using hp)]
theorem vp_nI {q n : Nat} (h : q < n) (hn : n < 2 ^ 31) : ¬ (nI q < 0 ∨ n ≤ (nI q).toNatClampNeg) := nI_in h hn
