/-! ways go both ways -/
theorem bes_sym {A : Nat → Nat} {a b : Nat} (h : (bes A a).testBit b = true) : (bes A b).testBit a = true := by
  by_cases e : a = b
  · subst e
    exact h
  · have h1 := tb_iff.mpr h
    obtain ⟨j, hj, h2⟩ := (bs_bit (fun e' => e e'.symm) _).mp h1
    apply tb_iff.mp
    refine (bs_bit e _).mpr ⟨j, hj, ?_⟩
    rcases h2 with ⟨h2, h3⟩ | ⟨h2, h3⟩
    · exact Or.inr ⟨h3, h2⟩
    · exact Or.inl ⟨h3, h2⟩
theorem t255 : ∀ b, b < 8 → (255 : Nat).testBit b = true := by decide
theorem bl_s5 {A : Nat → Nat} {a n b : Nat} (hb : b < 8) : (bl A 255 a (n + 1)).testBit b = true ↔ (bl A 255 a n).testBit b = true ∨ ∃ h, h < 8 ∧ (bl A 255 a n).testBit h = true ∧ (bes A h).testBit b = true := by
  rw [bl_s]
  constructor
  · rintro (h | ⟨h1, h2⟩)
    · exact Or.inl h
    · exact Or.inr h2
  · rintro (h | h2)
    · exact Or.inl h
    · exact Or.inr ⟨t255 b hb, h2⟩
theorem bl_0 {A : Nat → Nat} {m a b : Nat} : (bl A m a 0).testBit b = true ↔ a = b := by
  rw [bl, Nat.testBit_two_pow]
  exact decide_eq_true_iff
theorem bl_p {A : Nat → Nat} {a : Nat} (ha : a < 8) : ∀ (n b : Nat), b < 8 → ((bl A 255 a (n + 1)).testBit b = true ↔ (bl A 255 a n).testBit b = true ∨ ∃ c, c < 8 ∧ (bes A a).testBit c = true ∧ (bl A 255 c n).testBit b = true) := by
  intro n
  induction n with
  | zero =>
    intro b hb
    rw [bl_s5 hb]
    constructor
    · rintro (h | ⟨h, h1, h2, h3⟩)
      · exact Or.inl h
      · rw [bl_0] at h2
        subst h2
        exact Or.inr ⟨b, hb, h3, bl_0.mpr rfl⟩
    · rintro (h | ⟨c, h1, h2, h3⟩)
      · exact Or.inl h
      · rw [bl_0] at h3
        subst h3
        exact Or.inr ⟨a, ha, bl_0.mpr rfl, h2⟩
  | succ n ih =>
    intro b hb
    constructor
    · intro h
      rcases (bl_s5 hb).mp h with h | ⟨h, h1, h2, h3⟩
      · exact Or.inl h
      · rcases (ih h h1).mp h2 with h4 | ⟨c, h4, h5, h6⟩
        · exact Or.inl ((bl_s5 hb).mpr (Or.inr ⟨h, h1, h4, h3⟩))
        · exact Or.inr ⟨c, h4, h5, (bl_s5 hb).mpr (Or.inr ⟨h, h1, h6, h3⟩)⟩
    · rintro (h | ⟨c, h1, h2, h3⟩)
      · exact bl_u h
      · rcases (bl_s5 hb).mp h3 with h4 | ⟨h, h4, h5, h6⟩
        · exact bl_u ((ih b hb).mpr (Or.inr ⟨c, h1, h2, h4⟩))
        · exact (bl_s5 hb).mpr (Or.inr ⟨h, h4, (ih h h4).mpr (Or.inr ⟨c, h1, h2, h5⟩), h6⟩)
theorem bl_y {A : Nat → Nat} : ∀ (n a b : Nat), a < 8 → b < 8 → (bl A 255 a n).testBit b = true → (bl A 255 b n).testBit a = true := by
  intro n
  induction n with
  | zero =>
    intro a b ha hb h
    rw [bl_0] at h ⊢
    exact h.symm
  | succ n ih =>
    intro a b ha hb h
    rcases (bl_s5 hb).mp h with h | ⟨h, h1, h2, h3⟩
    · exact bl_u (ih a b ha hb h)
    · exact (bl_p hb n a ha).mpr (Or.inr ⟨h, h1, bes_sym h3, ih a h ha h1 h2⟩)
theorem bt_y {A : Nat → Nat} {a b : Nat} (ha : a < 8) (hb : b < 8) : bt A 255 a b = bt A 255 b a := by
  funext n
  apply Bool.eq_iff_iff.mpr
  exact ⟨fun h => bl_y n a b ha hb h, fun h => bl_y n b a hb ha h⟩
theorem ds_y {A : Nat → Nat} {a b : Nat} (ha : a < 8) (hb : b < 8) : ds A a b = ds A b a := by
  unfold ds
  rw [bt_y ha hb]
theorem ds_7 {A : Nat → Nat} {a b : Nat} : ds A a b < 8 ↔ (bl A 255 a 7).testBit b = true := by
  obtain ⟨h1, h2, h3⟩ := fi_sp (f := bt A 255 a b) 8
  constructor
  · intro h
    have := bl_le (n := ds A a b) (h3 h) (7 - ds A a b)
    rwa [show ds A a b + (7 - ds A a b) = 7 by omega] at this
  · intro h
    by_cases c : ds A a b < 8
    · exact c
    · have := h2 7 (by unfold ds at c; omega)
      rw [show bt A 255 a b 7 = (bl A 255 a 7).testBit b from rfl, h] at this
      cases this
theorem ds_i {A : Nat → Nat} {a b n : Nat} (hn : n < 8) : ds A a b ≤ n ↔ (bl A 255 a n).testBit b = true := by
  obtain ⟨h1, h2, h3⟩ := fi_sp (f := bt A 255 a b) 8
  constructor
  · intro h
    have := bl_le (n := ds A a b) (h3 (show ds A a b < 8 by omega)) (n - ds A a b)
    rwa [show ds A a b + (n - ds A a b) = n by omega] at this
  · intro h
    by_cases c : ds A a b ≤ n
    · exact c
    · have := h2 n (by unfold ds at c; omega)
      rw [show bt A 255 a b n = (bl A 255 a n).testBit b from rfl, h] at this
      cases this
theorem ds_near {A : Nat → Nat} {h b k : Nat} (hh : h < 8) (hb : b < 8) (hk : k + 1 < 8) (e : ds A h b = k + 1) : ∃ g, g < 8 ∧ (bes A h).testBit g = true ∧ ds A g b = k := by
  have h1 := (ds_i (A := A) (a := h) (b := b) hk).mp (by omega)
  have h2 : ¬ (bl A 255 h k).testBit b = true := fun h => by
    have := (ds_i (A := A) (show k < 8 by omega)).mpr h
    omega
  rcases (bl_p hh k b hb).mp h1 with h3 | ⟨c, h3, h4, h5⟩
  · exact absurd h3 h2
  · refine ⟨c, h3, h4, ?_⟩
    have h6 := (ds_i (A := A) (show k < 8 by omega)).mpr h5
    by_cases e2 : ds A c b = k
    · exact e2
    · have h7 := (ds_i (A := A) (a := c) (b := b) (show k - 1 < 8 by omega)).mp (by omega)
      have h8 := (bl_p hh (k - 1) b hb).mpr (Or.inr ⟨c, h3, h4, h7⟩)
      rw [show k - 1 + 1 = k by omega] at h8
      exact absurd h8 h2
theorem ds_0 {A : Nat → Nat} {a b : Nat} (h : ds A a b = 0) : a = b := bl_0.mp ((ds_i (A := A) (show 0 < 8 by omega)).mp (by omega))
theorem ds_s {A : Nat → Nat} {a : Nat} : ds A a a = 0 := by
  have := (ds_i (A := A) (a := a) (b := a) (show 0 < 8 by omega)).mpr bl_a
  omega
theorem bl_tr {A : Nat → Nat} {a b c n : Nat} (ha : a < 8) (hb : b < 8) (hc : c < 8) : ∀ m, (bl A 255 a n).testBit b = true → ∀ c, c < 8 → (bl A 255 b m).testBit c = true → (bl A 255 a (n + m)).testBit c = true
  | 0, h, c, hc, h2 => by
    rw [bl_0] at h2
    subst h2
    exact h
  | m + 1, h, c, hc, h2 => by
    rcases (bl_s5 hc).mp h2 with h3 | ⟨g, h3, h4, h5⟩
    · exact bl_u (bl_tr ha hb hc m h c hc h3)
    · exact (bl_s5 hc).mpr (Or.inr ⟨g, h3, bl_tr ha hb hc m h g h3 h4, h5⟩)
/-- who can come to whom -/
theorem cm_tr {A : Nat → Nat} {a b c : Nat} (ha : a < 8) (hb : b < 8) (hc : c < 8) (h1 : (bl A 255 a 7).testBit b = true) (h2 : (bl A 255 b 7).testBit c = true) : (bl A 255 a 7).testBit c = true := by
  have := bl_tr ha hb hc 7 h1 c hc h2
  rwa [bl_7 ha (by decide) 7] at this
/-- the lowest that is nearer -/
def lw (A : Nat → Nat) (h b : Nat) : Nat := fi (fun g => (bes A h).testBit g && decide (ds A g b + 1 = ds A h b)) 8
theorem lw_ok {A : Nat → Nat} {h b : Nat} (hh : h < 8) (hb : b < 8) (h1 : 0 < ds A h b) (h2 : ds A h b < 8) : lw A h b < 8 ∧ ds A (lw A h b) b + 1 = ds A h b ∧ (bes A h).testBit (lw A h b) = true ∧ ∀ g, g < lw A h b → ¬ ((bes A h).testBit g = true ∧ ds A g b + 1 = ds A h b) := by
  obtain ⟨p1, p2, p3⟩ := fi_sp (f := fun g => (bes A h).testBit g && decide (ds A g b + 1 = ds A h b)) 8
  obtain ⟨g, g1, g2, g3⟩ := ds_near (A := A) (k := ds A h b - 1) hh hb (by omega) (by omega)
  have hl : lw A h b < 8 := by
    by_cases c : lw A h b < 8
    · exact c
    · have := p2 g (by unfold lw at c; omega)
      rw [g2, Bool.true_and] at this
      exact absurd (show ds A g b + 1 = ds A h b by omega) (of_decide_eq_false this)
  have h3 := p3 hl
  rw [Bool.and_eq_true, decide_eq_true_eq] at h3
  refine ⟨hl, h3.2, h3.1, fun g hg => ?_⟩
  rintro ⟨h4, h5⟩
  have := p2 g hg
  rw [h4, Bool.true_and] at this
  exact absurd h5 (of_decide_eq_false this)
def pth (A : Nat → Nat) (b a : Nat) : Nat → Nat
  | 0 => a
  | i + 1 => lw A (pth A b a i) b
theorem pth_ok {A : Nat → Nat} {a b : Nat} (ha : a < 8) (hb : b < 8) (h : ds A a b < 8) : ∀ i, i ≤ ds A a b → pth A b a i < 8 ∧ ds A (pth A b a i) b + i = ds A a b
  | 0, _ => ⟨ha, by rw [pth, Nat.add_zero]⟩
  | i + 1, hi => by
    obtain ⟨h1, h2⟩ := pth_ok ha hb h i (by omega)
    obtain ⟨h3, h4, -⟩ := lw_ok (A := A) h1 hb (by omega) (by omega)
    refine ⟨h3, ?_⟩
    rw [pth]
    omega
/-- the farthest -/
def mxN (A : Nat → Nat) (h : Nat) : Nat → Nat
  | 0 => 0
  | g + 1 => if mxN A h g < ds A h g ∧ ds A h g < 8 then ds A h g else mxN A h g
theorem mx_le {A : Nat → Nat} {h : Nat} : ∀ n, mxN A h n ≤ 7
  | 0 => by rw [mxN]; omega
  | n + 1 => by
    have := mx_le (A := A) (h := h) n
    rw [mxN]
    split <;> omega
def mx (A : Nat → Nat) (h : Nat) : Nat := mxN A h 8
def cbN (A : Nat → Nat) : Nat → Nat
  | 0 => 0
  | j + 1 => if mx A (j + 1) < mx A (cbN A j) then j + 1 else cbN A j
theorem cb_le {A : Nat → Nat} : ∀ n, cbN A n ≤ n
  | 0 => Nat.le_refl _
  | n + 1 => by
    have := cb_le (A := A) n
    rw [cbN]
    split <;> omega
def wdN (A : Nat → Nat) : Nat → Nat
  | 0 => 0
  | j + 1 => if wdN A j < mx A j then mx A j else wdN A j
theorem wd_le {A : Nat → Nat} : ∀ n, wdN A n ≤ 7
  | 0 => by rw [wdN]; omega
  | n + 1 => by
    have := wd_le (A := A) n
    have := mx_le (A := A) (h := n) 8
    rw [wdN]
    unfold mx
    split <;> omega
/-- parts: how many, and which houses were seen -/
def ptS (A : Nat → Nat) : Nat → Nat
  | 0 => 0
  | h + 1 => if ptS A h / 2 ^ h % 2 = 1 then ptS A h else ptS A h ||| bl A 255 h 7
def ptN (A : Nat → Nat) : Nat → Nat
  | 0 => 0
  | h + 1 => ptN A h + (if bl A 255 h 7 &&& (2 ^ h - 1) = 0 then 1 else 0)
theorem ptS_lt {A : Nat → Nat} : ∀ h, h ≤ 8 → ptS A h < 256
  | 0, _ => by rw [ptS]; decide
  | h + 1, hh => by
    rw [ptS]
    split
    · exact ptS_lt h (by omega)
    · exact Nat.or_lt_two_pow (n := 8) (ptS_lt h (by omega)) (bl_lt (by omega) (by decide) 7)
theorem ptS_b {A : Nat → Nat} : ∀ h, h ≤ 8 → ∀ b, b < 8 → ((ptS A h).testBit b = true ↔ ∃ g, g < h ∧ (bl A 255 g 7).testBit b = true)
  | 0, _, b, hb => by
    rw [ptS, Nat.zero_testBit]
    constructor
    · intro h; cases h
    · rintro ⟨g, h1, -⟩; omega
  | h + 1, hh, b, hb => by
    have ih := ptS_b (A := A) h (by omega)
    rw [ptS]
    by_cases c : ptS A h / 2 ^ h % 2 = 1
    · rw [if_pos c, ih b hb]
      obtain ⟨g0, g1, g2⟩ := (ih h (by omega)).mp (tb_iff.mp c)
      constructor
      · rintro ⟨g, h1, h2⟩
        exact ⟨g, by omega, h2⟩
      · rintro ⟨g, h1, h2⟩
        by_cases e : g = h
        · subst e
          exact ⟨g0, g1, cm_tr (by omega) (by omega) hb g2 h2⟩
        · exact ⟨g, by omega, h2⟩
    · rw [if_neg c, Nat.testBit_or, Bool.or_eq_true, ih b hb]
      constructor
      · rintro (⟨g, h1, h2⟩ | h1)
        · exact ⟨g, by omega, h2⟩
        · exact ⟨h, by omega, h1⟩
      · rintro ⟨g, h1, h2⟩
        by_cases e : g = h
        · subst e
          exact Or.inr h2
        · exact Or.inl ⟨g, by omega, h2⟩
theorem pt_c {A : Nat → Nat} {h : Nat} (hh : h < 8) : bl A 255 h 7 &&& (2 ^ h - 1) = 0 ↔ ¬ ptS A h / 2 ^ h % 2 = 1 := by
  rw [tb_iff, ptS_b h (by omega) h hh]
  constructor
  · rintro e ⟨g, g1, g2⟩
    have h1 := bl_y 7 g h (by omega) hh g2
    have h2 : (bl A 255 h 7 &&& (2 ^ h - 1)).testBit g = true := by
      rw [Nat.testBit_and, h1, Nat.testBit_two_pow_sub_one, decide_eq_true g1]
      rfl
    rw [e, Nat.zero_testBit] at h2
    cases h2
  · intro hn
    apply tb_eq0
    intro i
    cases c : (bl A 255 h 7 &&& (2 ^ h - 1)).testBit i
    · rfl
    · rw [Nat.testBit_and, Nat.testBit_two_pow_sub_one, Bool.and_eq_true, decide_eq_true_eq] at c
      exact absurd ⟨i, c.2, bl_y 7 h i hh (by omega) c.1⟩ hn
theorem ptN_le {A : Nat → Nat} : ∀ h, ptN A h ≤ h
  | 0 => Nat.le_refl _
  | h + 1 => by
    have := ptN_le (A := A) h
    rw [ptN]
    split <;> omega
