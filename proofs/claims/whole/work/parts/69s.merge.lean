/-! the determinant of streets, road by road: left out, or its ends made one -/
def el (i c : Nat) : Int := if i = c then 1 else 0
def xr (p q c : Nat) : Int := el p c - el q c
/-- what a road between a and b brings to the row of i -/
def rwI (i a b c : Nat) : Int := (if a = i then xr i b c else 0) + (if b = i then xr i a c else 0)
/-- the row of i by the m roads from k on -/
def lr (ea eb : Nat → Nat) (ρ : Nat → Nat) : Nat → Nat → Nat → Nat → Int
  | 0, _, _, _ => 0
  | m + 1, k, i, c => lr ea eb ρ m (k + 1) i c + rwI i (ρ (ea k)) (ρ (eb k)) c
def RW (ea eb : Nat → Nat) (ρ : Nat → Nat) (m k i c : Nat) : Int := if ρ i = i then lr ea eb ρ m k i c else xr i (ρ i) c
def mg (ρ : Nat → Nat) (p q i : Nat) : Nat := if ρ i = p then q else ρ i
/-- p is seen as q -/
def ph (p q : Nat) (y : Nat → Int) (c : Nat) : Int := y c + (-y p) * xr p q c
theorem xr_self {s c : Nat} : xr s s c = 0 := Int.sub_self _
theorem ph_el {p q s c : Nat} (hpq : p ≠ q) : ph p q (el s) c = el (if s = p then q else s) c := by
  unfold ph xr el
  by_cases h : s = p
  · rw [if_pos h, if_pos h, h]
    omega
  · rw [if_neg h, if_neg h]
    omega
theorem ph_add {p q c : Nat} {y z : Nat → Int} : ph p q (fun c => y c + z c) c = ph p q y c + ph p q z c := by
  unfold ph
  grind
theorem ph_xr {p q s t c : Nat} (hpq : p ≠ q) : ph p q (xr s t) c = xr (if s = p then q else s) (if t = p then q else t) c := by
  have e1 := ph_el (s := s) (c := c) hpq
  have e2 := ph_el (s := t) (c := c) hpq
  unfold xr
  rw [← e1, ← e2]
  unfold ph
  grind
theorem ph_0 {p q c : Nat} : ph p q (fun _ => 0) c = 0 := by
  show (0 : Int) + (-0) * xr p q c = 0
  grind
theorem ph_if {p q c : Nat} {P : Prop} [Decidable P] {y : Nat → Int} : ph p q (fun c => if P then y c else 0) c = if P then ph p q y c else 0 := by
  by_cases h : P
  · simp only [if_pos h]
  · simp only [if_neg h]
    exact ph_0
theorem rw_i {p q i a b c : Nat} (hpq : p ≠ q) (hp : i ≠ p) (hq : i ≠ q) : rwI i (if a = p then q else a) (if b = p then q else b) c = ph p q (rwI i a b) c := by
  unfold rwI
  rw [ph_add (y := fun c => if a = i then xr i b c else 0) (z := fun c => if b = i then xr i a c else 0), ph_if, ph_if, ph_xr hpq, ph_xr hpq, if_neg hp]
  by_cases h1 : a = p
  · rw [if_pos h1, if_neg (show ¬ a = i by omega), if_neg (show ¬ q = i by omega)]
    by_cases h2 : b = p
    · rw [if_pos h2, if_neg (show ¬ b = i by omega), if_neg (show ¬ q = i by omega)]
    · rw [if_neg h2]
  · rw [if_neg h1]
    by_cases h2 : b = p
    · rw [if_pos h2, if_neg (show ¬ b = i by omega), if_neg (show ¬ q = i by omega)]
    · rw [if_neg h2]
theorem rw_q {p q a b c : Nat} (hpq : p ≠ q) : rwI q (if a = p then q else a) (if b = p then q else b) c = ph p q (fun c => rwI q a b c + rwI p a b c) c := by
  rw [ph_add]
  unfold rwI
  rw [ph_add (y := fun c => if a = q then xr q b c else 0) (z := fun c => if b = q then xr q a c else 0), ph_add (y := fun c => if a = p then xr p b c else 0) (z := fun c => if b = p then xr p a c else 0), ph_if, ph_if, ph_if, ph_if, ph_xr hpq, ph_xr hpq, ph_xr hpq, ph_xr hpq, if_neg (show ¬ q = p by omega), if_pos rfl]
  by_cases h1 : a = p
  · rw [if_pos h1, if_pos h1, if_neg (show ¬ a = q by omega), if_pos rfl]
    by_cases h2 : b = p
    · rw [if_pos h2, if_pos h2, if_neg (show ¬ b = q by omega), if_pos rfl]
      omega
    · rw [if_neg h2, if_neg h2]
      omega
  · rw [if_neg h1, if_neg h1]
    by_cases h2 : b = p
    · rw [if_pos h2, if_pos h2, if_neg (show ¬ b = q by omega), if_pos rfl]
      omega
    · rw [if_neg h2, if_neg h2]
      omega
section Merge
variable {ea eb ρ : Nat → Nat} {p q : Nat}
theorem lr_i {i c : Nat} (hpq : p ≠ q) (hp : i ≠ p) (hq : i ≠ q) : ∀ m k, lr ea eb (mg ρ p q) m k i c = ph p q (lr ea eb ρ m k i) c
  | 0, k => by
    show (0 : Int) = _
    exact ph_0.symm
  | m + 1, k => by
    have e : ph p q (lr ea eb ρ (m + 1) k i) c = ph p q (lr ea eb ρ m (k + 1) i) c + ph p q (rwI i (ρ (ea k)) (ρ (eb k))) c := ph_add (y := lr ea eb ρ m (k + 1) i) (z := rwI i (ρ (ea k)) (ρ (eb k)))
    rw [lr, lr_i hpq hp hq m (k + 1), e, ← rw_i hpq hp hq]
    rfl
theorem lr_q {c : Nat} (hpq : p ≠ q) : ∀ m k, lr ea eb (mg ρ p q) m k q c = ph p q (fun c => lr ea eb ρ m k q c + lr ea eb ρ m k p c) c
  | 0, k => by
    show (0 : Int) = ph p q (fun c => 0 + 0) c
    exact ph_0.symm
  | m + 1, k => by
    have e : ph p q (fun c => lr ea eb ρ (m + 1) k q c + lr ea eb ρ (m + 1) k p c) c = ph p q (fun c => lr ea eb ρ m (k + 1) q c + lr ea eb ρ m (k + 1) p c) c + ph p q (fun c => rwI q (ρ (ea k)) (ρ (eb k)) c + rwI p (ρ (ea k)) (ρ (eb k)) c) c := by
      rw [← ph_add]
      unfold ph
      simp only [lr]
      grind
    rw [lr, lr_q hpq m (k + 1), e, ← rw_q hpq]
    rfl
/-- the two rows of a road that joins two classes -/
theorem dt_merge {m k : Nat} {w : Nat → Int} (hpq : p ≠ q) (p7 : p < 7) (q8 : q < 8) (hp : ρ p = p) (hq : ρ q = q) (he : ρ (ea k) = p ∧ ρ (eb k) = q ∨ ρ (ea k) = q ∧ ρ (eb k) = p) : pf (RW ea eb ρ (m + 1) k) 7 w = fun S => pf (RW ea eb ρ m (k + 1)) 7 w S + pf (RW ea eb (mg ρ p q) m (k + 1)) 7 w S := by
  obtain ⟨r, er⟩ : ∃ r, r = RW ea eb ρ m (k + 1) := ⟨_, rfl⟩
  have rp : ∀ c, r p c = lr ea eb ρ m (k + 1) p c := fun c => by
    rw [er]
    exact if_pos hp
  have rq : ∀ c, r q c = lr ea eb ρ m (k + 1) q c := fun c => by
    rw [er]
    exact if_pos hq
  have rd : ∀ i c, rwI i (ρ (ea k)) (ρ (eb k)) c = if i = p then xr p q c else if i = q then xr q p c else 0 := fun i c => by
    unfold rwI
    rcases he with ⟨h1, h2⟩ | ⟨h1, h2⟩
    · rw [h1, h2]
      by_cases c1 : i = p
      · rw [if_pos c1, if_pos c1.symm, if_neg (by omega), c1, Int.add_zero]
      · rw [if_neg c1, if_neg (by omega)]
        by_cases c2 : i = q
        · rw [if_pos c2, if_pos c2.symm, c2, Int.zero_add]
        · rw [if_neg c2, if_neg (by omega)]
          rfl
    · rw [h1, h2]
      by_cases c1 : i = p
      · rw [if_pos c1, if_neg (by omega), if_pos c1.symm, c1, Int.zero_add]
      · rw [if_neg c1]
        by_cases c2 : i = q
        · rw [if_pos c2, if_pos c2.symm, if_neg (by omega), c2, Int.add_zero]
        · rw [if_neg c2, if_neg (by omega), if_neg (by omega)]
          rfl
  have e1 : ∀ i c, RW ea eb ρ (m + 1) k i c = if i = p then r p c + xr p q c else if i = q then r q c + xr q p c else r i c := fun i c => by
    by_cases c1 : i = p
    · rw [if_pos c1, c1, rp]
      unfold RW
      rw [if_pos hp, lr, rd, if_pos rfl]
    · rw [if_neg c1]
      by_cases c2 : i = q
      · rw [if_pos c2, c2, rq]
        unfold RW
        rw [if_pos hq, lr, rd, if_neg (by omega), if_pos rfl]
      · rw [if_neg c2, er]
        unfold RW
        by_cases c3 : ρ i = i
        · rw [if_pos c3, if_pos c3, lr, rd, if_neg c1, if_neg c2, Int.add_zero]
        · rw [if_neg c3, if_neg c3]
  obtain ⟨R, eR⟩ : ∃ R, R = sR r q (fun c => 1 * r q c + 1 * r p c) := ⟨_, rfl⟩
  have Rp : R p = r p := by rw [eR, sR_n hpq]
  have s1 : pf (RW ea eb ρ (m + 1) k) 7 w = pf (sR R p (fun c => 1 * r p c + 1 * xr p q c)) 7 w := by
    by_cases q7 : q < 7
    · rw [← pf_op (r := RW ea eb ρ (m + 1) k) (p := q) (q := p) (a := 1) (fun h => hpq h.symm) q7 p7]
      refine pf_c 7 w (fun i _ c _ => ?_)
      by_cases c1 : i = p
      · rw [c1, sR_s, sR_n hpq, e1, if_pos rfl]
        omega
      · rw [sR_n c1, eR]
        by_cases c2 : i = q
        · rw [c2, sR_s, sR_s, e1, e1, if_neg (by omega), if_pos rfl, if_pos rfl]
          unfold xr
          omega
        · rw [sR_n c2, sR_n c2, e1, if_neg c1, if_neg c2]
    · refine pf_c 7 w (fun i hi c _ => ?_)
      by_cases c1 : i = p
      · rw [c1, sR_s, e1, if_pos rfl]
        omega
      · rw [sR_n c1, eR, sR_n (by omega), e1, if_neg c1, if_neg (by omega)]
  have s2 : pf R 7 w = pf r 7 w := by
    by_cases q7 : q < 7
    · rw [eR]
      exact pf_op (fun h => hpq h.symm) q7 p7
    · exact pf_c 7 w (fun i hi c _ => by rw [eR, sR_n (by omega)])
  have s3 : pf (RW ea eb (mg ρ p q) m (k + 1)) 7 w = pf (sR R p (xr p q)) 7 w := by
    refine pf_all (p := p) (a := fun i => -sR R p (xr p q) i p) p7 (fun c _ => ?_) (fun i i7 ip c _ => ?_)
    · rw [sR_s]
      have : mg ρ p q p = q := if_pos hp
      unfold RW
      rw [this, if_neg (fun h => hpq h.symm)]
    · rw [sR_s, sR_n ip]
      show _ = ph p q (R i) c
      unfold RW
      by_cases iq : i = q
      · have m1 : mg ρ p q i = i := by
          unfold mg
          rw [iq, hq, if_neg (fun h => hpq h.symm)]
        rw [if_pos m1, iq, lr_q hpq, eR, sR_s]
        unfold ph
        simp only [rp, rq, Int.one_mul]
      · have Ri : R i = r i := by rw [eR, sR_n iq]
        rw [Ri, er]
        by_cases c3 : ρ i = i
        · have m1 : mg ρ p q i = i := by
            unfold mg
            rw [c3, if_neg ip]
          have r1 : RW ea eb ρ m (k + 1) i = lr ea eb ρ m (k + 1) i := funext fun c => if_pos c3
          rw [if_pos m1, r1, lr_i hpq ip iq]
        · have r1 : RW ea eb ρ m (k + 1) i = xr i (ρ i) := funext fun c => if_neg c3
          rw [r1, ph_xr hpq, if_neg ip]
          have m1 : ¬ mg ρ p q i = i := by
            unfold mg
            by_cases c4 : ρ i = p
            · rw [if_pos c4]
              omega
            · rw [if_neg c4]
              exact c3
          rw [if_neg m1]
          rfl
  rw [s1, pf_set 7 w p7, s3]
  have s4 : sR R p (r p) = R := by
    rw [← Rp]
    exact sR_id
  rw [s4, s2, er]
  funext S
  omega
theorem dt_same {m k : Nat} {w : Nat → Int} (he : ρ (ea k) = ρ (eb k)) : pf (RW ea eb ρ (m + 1) k) 7 w = pf (RW ea eb ρ m (k + 1)) 7 w := pf_c 7 w (fun i _ c _ => by
  unfold RW
  by_cases c3 : ρ i = i
  · rw [if_pos c3, if_pos c3, lr]
    unfold rwI
    rw [he]
    by_cases c4 : ρ (eb k) = i
    · rw [if_pos c4, c4, xr_self]
      omega
    · rw [if_neg c4]
      omega
  · rw [if_neg c3, if_neg c3])
end Merge
