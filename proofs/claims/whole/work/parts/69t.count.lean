/-! the trees counted road by road -/
def mS (f : Nat → Bool) : Nat → Nat
  | 0 => 0
  | n + 1 => if f n = true then mS f n ||| 2 ^ n else mS f n
theorem mS_b {f : Nat → Bool} {i : Nat} : ∀ n, (mS f n).testBit i = (decide (i < n) && f i)
  | 0 => by
    show (0 : Nat).testBit i = _
    rw [Nat.zero_testBit, decide_eq_false (by omega)]
    rfl
  | n + 1 => by
    rw [mS]
    by_cases c : n = i
    · subst c
      by_cases h : f n = true
      · rw [if_pos h, orb8, decide_eq_true rfl, decide_eq_true (by omega), h, Bool.or_true]
        rfl
      · rw [if_neg h, mS_b n, decide_eq_false (by omega)]
        cases e : f n
        · rw [Bool.and_false, Bool.and_false]
        · exact absurd e h
    · have e1 : decide (i < n + 1) = decide (i < n) := by
        by_cases c2 : i < n
        · rw [decide_eq_true c2, decide_eq_true (by omega)]
        · rw [decide_eq_false c2, decide_eq_false (by omega)]
      rw [e1]
      by_cases h : f n = true
      · rw [if_pos h, orb8, decide_eq_false c, Bool.or_false, mS_b n]
      · rw [if_neg h, mS_b n]
def eA (A : Nat → Nat) (j : Nat) : Nat := A (40 + 2 * j)
def eB (A : Nat → Nat) (j : Nat) : Nat := A (40 + 2 * j + 1)
def nC (ρ : Nat → Nat) : Nat := sm (fun i => if ρ i = i then 1 else 0) 8
def ZCl (A : Nat → Nat) (P k Z : Nat) : Prop := ∀ j, j < k → P.testBit j = true → Z.testBit (eA A j) = Z.testBit (eB A j)
def RpI (A ρ : Nat → Nat) (P k : Nat) : Prop := (∀ i, i < 8 → ρ i < 8 ∧ ρ (ρ i) = ρ i) ∧ ρ 7 = 7 ∧ (∀ j, j < k → P.testBit j = true → ρ (eA A j) = ρ (eB A j)) ∧ ∀ Z, ZCl A P k Z → ∀ i j, i < 8 → j < 8 → ρ i = ρ j → Z.testBit i = Z.testBit j
theorem t_new {P k : Nat} (h : P < 2 ^ k) : (P + 2 ^ k).testBit k = true := by
  rw [ad_or h, orb8, decide_eq_true rfl, Bool.or_true]
theorem t_old {P k j : Nat} (h : P < 2 ^ k) (hj : j < k) : (P + 2 ^ k).testBit j = P.testBit j := by
  rw [ad_or h, orb8, decide_eq_false (by omega), Bool.or_false]
theorem rp_0 {A : Nat → Nat} : RpI A id 0 0 := ⟨fun i h => ⟨h, rfl⟩, rfl, fun j h => by omega, fun Z _ i j _ _ e => by
  have e' : i = j := e
  rw [e']⟩
theorem rp_skip {A ρ : Nat → Nat} {P k : Nat} (hP : P < 2 ^ k) (h : RpI A ρ P k) : RpI A ρ P (k + 1) := by
  obtain ⟨h1, h2, h3, h4⟩ := h
  refine ⟨h1, h2, fun j hj hb => ?_, fun Z hZ => h4 Z (fun j hj => hZ j (by omega))⟩
  by_cases c : j < k
  · exact h3 j c hb
  · rw [lt_tb hP (by omega)] at hb
    cases hb
theorem rp_same {A ρ : Nat → Nat} {P k : Nat} (hP : P < 2 ^ k) (he : ρ (eA A k) = ρ (eB A k)) (h : RpI A ρ P k) : RpI A ρ (P + 2 ^ k) (k + 1) := by
  obtain ⟨h1, h2, h3, h4⟩ := h
  refine ⟨h1, h2, fun j hj hb => ?_, fun Z hZ => h4 Z (fun j hj hb => hZ j (by omega) (by rw [t_old hP hj, hb]))⟩
  by_cases c : j < k
  · exact h3 j c (by rw [← t_old hP c, hb])
  · have : j = k := by omega
    rw [this, he]
theorem rp_join {A ρ : Nat → Nat} {P k p q : Nat} (hP : P < 2 ^ k) (a8 : eA A k < 8) (b8 : eB A k < 8) (hpq : p ≠ q) (p7 : p ≠ 7) (hp : ρ p = p) (hq : ρ q = q) (q8 : q < 8) (he : ρ (eA A k) = p ∧ ρ (eB A k) = q ∨ ρ (eA A k) = q ∧ ρ (eB A k) = p) (h : RpI A ρ P k) : RpI A (mg ρ p q) (P + 2 ^ k) (k + 1) := by
  obtain ⟨h1, h2, h3, h4⟩ := h
  have mq : mg ρ p q q = q := by
    unfold mg
    rw [hq, if_neg (fun e => hpq e.symm)]
  refine ⟨fun i hi => ?_, ?_, fun j hj hb => ?_, fun Z hZ i j hi hj e => ?_⟩
  · by_cases c : ρ i = p
    · have : mg ρ p q i = q := if_pos c
      rw [this, mq]
      exact ⟨q8, rfl⟩
    · have : mg ρ p q i = ρ i := if_neg c
      rw [this]
      refine ⟨(h1 i hi).1, ?_⟩
      unfold mg
      rw [(h1 i hi).2, if_neg c]
  · unfold mg
    rw [h2, if_neg (fun e => p7 e.symm)]
  · unfold mg
    by_cases c : j < k
    · rw [h3 j c (by rw [← t_old hP c, hb])]
    · have : j = k := by omega
      rw [this]
      rcases he with ⟨e1, e2⟩ | ⟨e1, e2⟩
      · rw [e1, e2, if_pos rfl, if_neg (fun e => hpq e.symm)]
      · rw [e1, e2, if_pos rfl, if_neg (fun e => hpq e.symm)]
  · have hZ' : ZCl A P k Z := fun j hj hb => hZ j (by omega) (by rw [t_old hP hj, hb])
    have zk := hZ k (by omega) (t_new hP)
    have g := h4 Z hZ'
    have x1 : ∀ s, s < 8 → ρ s = p → ∀ t, t < 8 → ρ t = q → Z.testBit s = Z.testBit t := fun s s8 es t t8 et => by
      rcases he with ⟨e1, e2⟩ | ⟨e1, e2⟩
      · rw [g s _ s8 a8 (es.trans e1.symm), zk, g t _ t8 b8 (et.trans e2.symm)]
      · rw [g s _ s8 b8 (es.trans e2.symm), ← zk, g t _ t8 a8 (et.trans e1.symm)]
    unfold mg at e
    by_cases c1 : ρ i = p
    · rw [if_pos c1] at e
      by_cases c2 : ρ j = p
      · exact g i j hi hj (c1.trans c2.symm)
      · rw [if_neg c2] at e
        exact x1 i hi c1 j hj e.symm
    · rw [if_neg c1] at e
      by_cases c2 : ρ j = p
      · rw [if_pos c2] at e
        exact (x1 j hj c2 i hi e).symm
      · rw [if_neg c2] at e
        exact g i j hi hj e
theorem nC_mg {ρ : Nat → Nat} {p q : Nat} (hpq : p ≠ q) (hp : ρ p = p) (hq : ρ q = q) (p8 : p < 8) : nC ρ = nC (mg ρ p q) + 1 := by
  have e : nC ρ = sm (fun i => (if mg ρ p q i = i then 1 else 0) + (if i = p then 1 else 0)) 8 := sm_c 8 (fun i _ => by
    unfold mg
    by_cases c : i = p
    · rw [c, hp, if_pos rfl, if_pos rfl, if_neg (show ¬ q = p by omega)]
    · rw [if_neg c]
      by_cases c1 : ρ i = p
      · rw [if_pos c1]
        by_cases c2 : q = i
        · rw [← c2, hq] at c1
          exact absurd c1.symm hpq
        · rw [if_neg c2, if_neg (by omega)]
      · rw [if_neg c1, Nat.add_zero])
  rw [e, sm_add, sm_one, if_pos p8]
  rfl
/-- at the end: one class, and all is come to -/
theorem rp_end {A ρ : Nat → Nat} {R : Nat} (w : Wf A) (h : RpI A ρ R (A 0)) : comp A 0 R = 255 ↔ ∀ i, i < 8 → ρ i = 7 := by
  obtain ⟨h1, h2, h3, h4⟩ := h
  constructor
  · intro hc
    have bZ := fun i => mS_b (f := fun i => decide (ρ i = ρ 0)) (i := i) 8
    have hZ : Cls A R (mS (fun i => decide (ρ i = ρ 0)) 8) := fun k hk hR => by
      obtain ⟨a8, b8, -⟩ := w.2.2.1.1 k hk
      have e : ρ (A (40 + 2 * k)) = ρ (A (40 + 2 * k + 1)) := h3 k hk hR
      rw [bZ, bZ, e, decide_eq_true a8, decide_eq_true b8]
      rintro (h | h)
      · exact ⟨h, h⟩
      · exact ⟨h, h⟩
    have h0 : (mS (fun i => decide (ρ i = ρ 0)) 8).testBit 0 = true := by
      rw [bZ]
      simp only [decide_true]
      rfl
    have all : ∀ i, i < 8 → ρ i = ρ 0 := fun i hi => by
      have e := cm_in hZ h0 8 i (by
        have : comp A 0 R = 255 := hc
        unfold comp at this
        rw [this]
        exact t255 i hi)
      rw [bZ, Bool.and_eq_true] at e
      exact of_decide_eq_true e.2
    intro i hi
    rw [all i hi, ← all 7 (by omega), h2]
  · intro ha
    have hz : ZCl A R (A 0) (comp A 0 R) := fun j hj hb => by
      have c := comp_c (R := R) w (show 0 < 8 by omega) j hj hb
      show (comp A 0 R).testBit (A (40 + 2 * j)) = (comp A 0 R).testBit (A (40 + 2 * j + 1))
      cases e1 : (comp A 0 R).testBit (A (40 + 2 * j)) <;> cases e2 : (comp A 0 R).testBit (A (40 + 2 * j + 1))
      · rfl
      · rw [(c (Or.inr e2)).1] at e1
        cases e1
      · rw [(c (Or.inl e1)).2] at e2
        cases e2
      · rfl
    have lc := comp_l (R := R) w (show 0 < 8 by omega)
    apply Nat.eq_of_testBit_eq
    intro i
    by_cases hi : i < 8
    · rw [t255 i hi, h4 _ hz i 0 hi (by omega) ((ha i hi).trans (ha 0 (by omega)).symm)]
      exact comp_a
    · rw [lt_tb (k := 8) lc (by omega), lt_tb (k := 8) (by decide) (by omega)]
