/-! how far houses are: sets of houses as bits -/
theorem tb_iff {s h : Nat} : s / 2 ^ h % 2 = 1 ↔ s.testBit h = true := by
  rw [Nat.testBit_eq_decide_div_mod_eq]
  exact decide_eq_true_iff.symm
theorem tb_eq0 {s : Nat} (h : ∀ i, s.testBit i = false) : s = 0 := Nat.eq_of_testBit_eq (fun i => by rw [h i, Nat.zero_testBit])
theorem tb_lt {s i : Nat} (hs : s < 256) (h : s.testBit i = true) : i < 8 := by
  by_cases hi : i < 8
  · exact hi
  · have := Nat.testBit_lt_two_pow (x := s) (i := i) (Nat.lt_of_lt_of_le (show s < 2 ^ 8 from hs) (Nat.pow_le_pow_right (show 0 < 2 by decide) (show 8 ≤ i by omega)))
    rw [this] at h
    cases h
def nxN (A : Nat → Nat) (s : Nat) : Nat → Nat
  | 0 => 0
  | h + 1 => nxN A s h ||| (if s / 2 ^ h % 2 = 1 then bes A h else 0)
def nxt (A : Nat → Nat) (s : Nat) : Nat := nxN A s 8
theorem nx_bit {A : Nat → Nat} {s b : Nat} : ∀ n, (nxN A s n).testBit b = true ↔ ∃ h, h < n ∧ s.testBit h = true ∧ (bes A h).testBit b = true
  | 0 => by
    rw [nxN, Nat.zero_testBit]
    constructor
    · intro h; cases h
    · rintro ⟨h, h1, -⟩; omega
  | n + 1 => by
    rw [nxN, Nat.testBit_or, Bool.or_eq_true, nx_bit n]
    constructor
    · rintro (⟨h, h1, h2, h3⟩ | h1)
      · exact ⟨h, by omega, h2, h3⟩
      · by_cases c : s / 2 ^ n % 2 = 1
        · rw [if_pos c] at h1
          exact ⟨n, by omega, tb_iff.mp c, h1⟩
        · rw [if_neg c, Nat.zero_testBit] at h1
          cases h1
    · rintro ⟨h, h1, h2, h3⟩
      by_cases e : h = n
      · right
        subst e
        rw [if_pos (tb_iff.mpr h2)]
        exact h3
      · exact Or.inl ⟨h, by omega, h2, h3⟩
theorem nxt_bit {A : Nat → Nat} {s b : Nat} : (nxt A s).testBit b = true ↔ ∃ h, h < 8 ∧ s.testBit h = true ∧ (bes A h).testBit b = true := nx_bit 8
theorem nxN_lt {A : Nat → Nat} {s : Nat} (w : Wf A) : ∀ n, nxN A s n < 256
  | 0 => by rw [nxN]; decide
  | n + 1 => by
    rw [nxN]
    apply Nat.or_lt_two_pow (n := 8)
    · exact nxN_lt w n
    · split
      · exact bes_lt w
      · decide
theorem nxt_0 {A : Nat → Nat} : nxt A 0 = 0 := by
  apply tb_eq0
  intro i
  cases h : (nxt A 0).testBit i
  · rfl
  · obtain ⟨x, -, h2, -⟩ := nxt_bit.mp h
    rw [Nat.zero_testBit] at h2
    cases h2
def bl (A : Nat → Nat) (m a : Nat) : Nat → Nat
  | 0 => 2 ^ a
  | n + 1 => bl A m a n ||| (nxt A (bl A m a n) &&& m)
def ed (A : Nat → Nat) (m a : Nat) : Nat → Nat
  | 0 => 2 ^ a
  | n + 1 => nxt A (ed A m a n) &&& m &&& (bl A m a n ^^^ 4294967295)
theorem ng_bit {x b : Nat} (hb : b < 32) : (x ^^^ 4294967295).testBit b = !x.testBit b := by
  rw [Nat.testBit_xor, show 4294967295 = 2 ^ 32 - 1 from rfl, Nat.testBit_two_pow_sub_one, decide_eq_true hb, Bool.xor_true]
theorem bl_s {A : Nat → Nat} {m a n b : Nat} : (bl A m a (n + 1)).testBit b = true ↔ (bl A m a n).testBit b = true ∨ (m.testBit b = true ∧ ∃ h, h < 8 ∧ (bl A m a n).testBit h = true ∧ (bes A h).testBit b = true) := by
  rw [bl, Nat.testBit_or, Bool.or_eq_true, Nat.testBit_and, Bool.and_eq_true, nxt_bit, and_comm (a := m.testBit b = true)]
theorem bl_u {A : Nat → Nat} {m a n b : Nat} (h : (bl A m a n).testBit b = true) : (bl A m a (n + 1)).testBit b = true := bl_s.mpr (Or.inl h)
theorem bl_le {A : Nat → Nat} {m a b n : Nat} (h : (bl A m a n).testBit b = true) : ∀ k, (bl A m a (n + k)).testBit b = true
  | 0 => h
  | k + 1 => bl_u (bl_le h k)
theorem bl_lt {A : Nat → Nat} {m a : Nat} (ha : a < 8) (hm : m < 256) : ∀ n, bl A m a n < 256
  | 0 => p2_lt ha
  | n + 1 => Nat.or_lt_two_pow (n := 8) (bl_lt ha hm n) (Nat.and_lt_two_pow (n := 8) _ hm)
theorem bl_a {A : Nat → Nat} {m a n : Nat} : (bl A m a n).testBit a = true := by
  have := bl_le (A := A) (m := m) (a := a) (n := 0) (b := a) (by rw [bl, Nat.testBit_two_pow, decide_eq_true rfl]) n
  rwa [Nat.zero_add] at this
theorem bl_e {A : Nat → Nat} {m a n : Nat} (h : bl A m a (n + 1) = bl A m a n) : bl A m a (n + 2) = bl A m a (n + 1) := by
  show bl A m a (n + 1) ||| (nxt A (bl A m a (n + 1)) &&& m) = _
  rw [h]
  show bl A m a (n + 1) = _
  exact h
/-- how many -/
def cn (s : Nat) : Nat → Nat
  | 0 => 0
  | h + 1 => cn s h + s / 2 ^ h % 2
theorem cn_le {s t : Nat} (h : ∀ i, s.testBit i = true → t.testBit i = true) : ∀ n, cn s n ≤ cn t n
  | 0 => Nat.le_refl _
  | n + 1 => by
    have h1 := cn_le h n
    rw [cn, cn]
    have h2 : s / 2 ^ n % 2 ≤ t / 2 ^ n % 2 := by
      by_cases c : s / 2 ^ n % 2 = 1
      · have := tb_iff.mpr (h n (tb_iff.mp c))
        omega
      · omega
    omega
theorem cn_lt {s t j : Nat} (h : ∀ i, s.testBit i = true → t.testBit i = true) (h1 : t.testBit j = true) (h2 : s.testBit j = false) : ∀ n, j < n → cn s n < cn t n
  | 0, hn => by omega
  | n + 1, hn => by
    rw [cn, cn]
    have e1 := cn_le h n
    by_cases c : j = n
    · subst c
      have e2 := tb_iff.mpr h1
      have e3 : ¬ s / 2 ^ j % 2 = 1 := fun e => by rw [tb_iff.mp e] at h2; cases h2
      omega
    · have e4 := cn_lt h h1 h2 n (by omega)
      have h2 : s / 2 ^ n % 2 ≤ t / 2 ^ n % 2 := by
        by_cases c : s / 2 ^ n % 2 = 1
        · have := tb_iff.mpr (h n (tb_iff.mp c))
          omega
        · omega
      omega
theorem cn_8 {s : Nat} : ∀ n, cn s n ≤ n
  | 0 => Nat.le_refl _
  | n + 1 => by
    have := cn_8 (s := s) n
    rw [cn]
    omega
theorem bl_c {A : Nat → Nat} {m a n : Nat} (ha : a < 8) (hm : m < 256) (h : bl A m a (n + 1) ≠ bl A m a n) : cn (bl A m a n) 8 < cn (bl A m a (n + 1)) 8 := by
  have : ∃ i, (bl A m a (n + 1)).testBit i ≠ (bl A m a n).testBit i := by
    apply Classical.byContradiction
    intro hn
    exact h (Nat.eq_of_testBit_eq (fun i => Classical.byContradiction (fun hi => hn ⟨i, hi⟩)))
  obtain ⟨i, hi⟩ := this
  have h2 : (bl A m a n).testBit i = false := by
    cases c : (bl A m a n).testBit i
    · rfl
    · exact absurd ((bl_u c).trans c.symm) hi
  have h1 : (bl A m a (n + 1)).testBit i = true := by
    cases c : (bl A m a (n + 1)).testBit i
    · exact absurd (c.trans h2.symm) hi
    · rfl
  exact cn_lt (fun i h => bl_u h) h1 h2 8 (tb_lt (bl_lt ha hm _) h1)
theorem bl_n {A : Nat → Nat} {m a : Nat} (ha : a < 8) (hm : m < 256) : ∀ n, bl A m a (n + 1) = bl A m a n ∨ n + 2 ≤ cn (bl A m a (n + 1)) 8
  | 0 => by
    by_cases c : bl A m a (0 + 1) = bl A m a 0
    · exact Or.inl c
    · right
      have h1 := bl_c ha hm c
      have h2 : cn 0 8 < cn (bl A m a 0) 8 := cn_lt (fun i h => by rw [Nat.zero_testBit] at h; cases h) (bl_a (n := 0)) (Nat.zero_testBit a) 8 ha
      omega
  | n + 1 => by
    rcases bl_n (A := A) ha hm n with h | h
    · exact Or.inl (bl_e h)
    · by_cases c : bl A m a (n + 1 + 1) = bl A m a (n + 1)
      · exact Or.inl c
      · have h1 := bl_c ha hm c
        exact Or.inr (by omega)
theorem bl_7 {A : Nat → Nat} {m a : Nat} (ha : a < 8) (hm : m < 256) : ∀ k, bl A m a (7 + k) = bl A m a 7
  | 0 => rfl
  | 1 => by
    rcases bl_n (A := A) ha hm 7 with h | h
    · exact h
    · have := cn_8 (s := bl A m a (7 + 1)) 8
      omega
  | k + 2 => by
    have h1 := bl_7 (A := A) ha hm k
    have h2 := bl_7 (A := A) ha hm (k + 1)
    have h3 : bl A m a (7 + k + 1) = bl A m a (7 + k) := by rw [show 7 + k + 1 = 7 + (k + 1) by omega, h2, h1]
    have h4 := bl_e h3
    rw [show 7 + (k + 2) = 7 + k + 2 by omega, h4, show 7 + k + 1 = 7 + (k + 1) by omega]
    exact h2
theorem ed_lt {A : Nat → Nat} {m a : Nat} (ha : a < 8) (hm : m < 256) : ∀ n, ed A m a n < 256
  | 0 => p2_lt ha
  | n + 1 => by
    have h1 : nxt A (ed A m a n) &&& m < 256 := Nat.and_lt_two_pow (n := 8) _ hm
    show nxt A (ed A m a n) &&& m &&& (bl A m a n ^^^ 4294967295) < 256
    exact Nat.lt_of_le_of_lt Nat.and_le_left h1
theorem ed_s {A : Nat → Nat} {m a n b : Nat} (hb : b < 32) : (ed A m a (n + 1)).testBit b = true ↔ (∃ h, h < 8 ∧ (ed A m a n).testBit h = true ∧ (bes A h).testBit b = true) ∧ m.testBit b = true ∧ (bl A m a n).testBit b = false := by
  rw [ed, Nat.testBit_and, Nat.testBit_and, ng_bit hb, Bool.and_eq_true, Bool.and_eq_true, nxt_bit, Bool.not_eq_true', and_assoc]
theorem bl_d {A : Nat → Nat} {m a : Nat} (ha : a < 8) (hm : m < 256) : ∀ n, bl A m a (n + 1) = bl A m a n ||| ed A m a (n + 1) := by
  have key : ∀ n b, (bl A m a (n + 1)).testBit b = ((bl A m a n).testBit b || (ed A m a (n + 1)).testBit b) := by
    intro n
    induction n with
    | zero =>
      intro b
      by_cases hb : b < 8
      · apply Bool.eq_iff_iff.mpr
        rw [Bool.or_eq_true, bl_s, ed_s (by omega)]
        constructor
        · rintro (h | ⟨h1, h2⟩)
          · exact Or.inl h
          · cases c : (bl A m a 0).testBit b
            · exact Or.inr ⟨h2, h1, rfl⟩
            · exact Or.inl rfl
        · rintro (h | ⟨h1, h2, h3⟩)
          · exact Or.inl h
          · exact Or.inr ⟨h2, h1⟩
      · have z : ∀ x, x < 256 → x.testBit b = false := fun x hx => by
          cases c : x.testBit b
          · rfl
          · exact absurd (tb_lt hx c) hb
        rw [z _ (bl_lt ha hm _), z _ (bl_lt ha hm _), z _ (ed_lt ha hm _)]
        rfl
    | succ n ih =>
      intro b
      by_cases hb : b < 8
      · apply Bool.eq_iff_iff.mpr
        rw [Bool.or_eq_true, bl_s, ed_s (by omega)]
        constructor
        · rintro (h | ⟨h1, h, h2, h3, h4⟩)
          · exact Or.inl h
          · cases c : (bl A m a (n + 1)).testBit b
            · right
              rw [ih h, Bool.or_eq_true] at h3
              rcases h3 with h3 | h3
              · have := bl_s.mpr (Or.inr ⟨h1, h, h2, h3, h4⟩)
                rw [this] at c
                cases c
              · exact ⟨⟨h, h2, h3, h4⟩, h1, rfl⟩
            · exact Or.inl rfl
        · rintro (h | ⟨⟨h, h1, h4, h5⟩, h2, h3⟩)
          · exact Or.inl h
          · refine Or.inr ⟨h2, h, h1, ?_, h5⟩
            rw [ih h, h4, Bool.or_true]
      · have z : ∀ x, x < 256 → x.testBit b = false := fun x hx => by
          cases c : x.testBit b
          · rfl
          · exact absurd (tb_lt hx c) hb
        rw [z _ (bl_lt ha hm _), z _ (bl_lt ha hm _), z _ (ed_lt ha hm _)]
        rfl
  intro n
  apply Nat.eq_of_testBit_eq
  intro b
  rw [Nat.testBit_or]
  exact key n b
theorem ed_b {A : Nat → Nat} {m a n b : Nat} (ha : a < 8) (hm : m < 256) : (ed A m a (n + 1)).testBit b = true ↔ (bl A m a (n + 1)).testBit b = true ∧ (bl A m a n).testBit b = false := by
  constructor
  · intro h
    have hb := tb_lt (ed_lt ha hm _) h
    refine ⟨?_, ((ed_s (by omega)).mp h).2.2⟩
    rw [bl_d ha hm, Nat.testBit_or, h, Bool.or_true]
  · rintro ⟨h1, h2⟩
    rwa [bl_d ha hm, Nat.testBit_or, h2, Bool.false_or] at h1
theorem ed_z {A : Nat → Nat} {m a n : Nat} (h : ed A m a n = 0) : ∀ k, ed A m a (n + k) = 0
  | 0 => h
  | k + 1 => by
    show nxt A (ed A m a (n + k)) &&& m &&& (bl A m a (n + k) ^^^ 4294967295) = 0
    rw [ed_z h k, nxt_0, Nat.zero_and, Nat.zero_and]
theorem ed_8 {A : Nat → Nat} {m a : Nat} (ha : a < 8) (hm : m < 256) : ed A m a 8 = 0 := by
  apply tb_eq0
  intro i
  cases c : (ed A m a (7 + 1)).testBit i
  · rfl
  · obtain ⟨h1, h2⟩ := (ed_b ha hm).mp c
    rw [bl_7 (A := A) ha hm 1, h2] at h1
    cases h1
theorem bl_z {A : Nat → Nat} {m a n : Nat} (ha : a < 8) (hm : m < 256) (h : ed A m a n = 0) : ∀ k, bl A m a (n + k) = bl A m a n
  | 0 => rfl
  | k + 1 => by
    have h1 := ed_z (n := n) h (k + 1)
    rw [show n + (k + 1) = n + k + 1 by omega] at h1 ⊢
    rw [bl_d ha hm, h1, Nat.or_zero]
    exact bl_z ha hm h k
theorem bl_z7 {A : Nat → Nat} {m a n : Nat} (ha : a < 8) (hm : m < 256) (hn : n ≤ 8) (h : ed A m a n = 0) : bl A m a n = bl A m a 7 := by
  by_cases c : n = 8
  · subst c
    exact bl_7 ha hm 1
  · obtain ⟨k, hk⟩ := Nat.le.dest (show n ≤ 7 by omega)
    rw [← hk]
    exact (bl_z ha hm h k).symm
/-- the first below n that is so, or n -/
def fi (f : Nat → Bool) : Nat → Nat
  | 0 => 0
  | n + 1 => if fi f n < n then fi f n else if f n = true then n else n + 1
theorem fi_sp {f : Nat → Bool} : ∀ n, fi f n ≤ n ∧ (∀ i, i < fi f n → f i = false) ∧ (fi f n < n → f (fi f n) = true)
  | 0 => ⟨Nat.le_refl _, fun i hi => by rw [fi] at hi; omega, fun h => by rw [fi] at h; omega⟩
  | n + 1 => by
    obtain ⟨h1, h2, h3⟩ := fi_sp (f := f) n
    rw [fi]
    by_cases c : fi f n < n
    · rw [if_pos c]
      exact ⟨by omega, h2, fun _ => h3 c⟩
    · rw [if_neg c]
      have e : fi f n = n := by omega
      rw [e] at h2
      cases hf : f n
      · rw [if_neg (by decide)]
        refine ⟨Nat.le_refl _, fun i hi => ?_, fun h => by omega⟩
        by_cases ei : i = n
        · rw [ei, hf]
        · exact h2 i (by omega)
      · rw [if_pos rfl]
        exact ⟨by omega, h2, fun _ => hf⟩
theorem fi_u {f : Nat → Bool} {n k : Nat} (hk : k < n) (h1 : f k = true) (h2 : ∀ i, i < k → f i = false) : fi f n = k := by
  obtain ⟨p1, p2, p3⟩ := fi_sp (f := f) n
  by_cases c : fi f n < k
  · have := p3 (by omega)
    rw [h2 _ c] at this
    cases this
  · by_cases c2 : k < fi f n
    · rw [p2 k c2] at h1
      cases h1
    · omega
theorem fi_n {f : Nat → Bool} {n : Nat} (h : ∀ i, i < n → f i = false) : fi f n = n := by
  obtain ⟨p1, p2, p3⟩ := fi_sp (f := f) n
  by_cases c : fi f n < n
  · have := p3 c
    rw [h _ c] at this
    cases this
  · omega
def dvI (f : Nat → Bool) (n : Nat) : Int32 := if fi f n < n then nI (fi f n) else -1
/-- when a house is come to -/
def bt (A : Nat → Nat) (m a h : Nat) : Nat → Bool := fun n => (bl A m a n).testBit h
theorem ed_fi {A : Nat → Nat} {m a n h : Nat} (ha : a < 8) (hm : m < 256) : (ed A m a n).testBit h = true ↔ ¬ fi (bt A m a h) n < n ∧ bt A m a h n = true := by
  cases n with
  | zero =>
    constructor
    · intro h
      exact ⟨by omega, h⟩
    · rintro ⟨-, h⟩
      exact h
  | succ n =>
    rw [ed_b ha hm]
    constructor
    · rintro ⟨h1, h2⟩
      refine ⟨?_, h1⟩
      rw [fi_n]
      · omega
      · intro i hi
        cases c : bt A m a h i
        · rfl
        · have := bl_le (n := i) c (n - i)
          rw [show i + (n - i) = n by omega, h2] at this
          cases this
    · rintro ⟨h1, h2⟩
      refine ⟨h2, ?_⟩
      obtain ⟨p1, p2, p3⟩ := fi_sp (f := bt A m a h) (n + 1)
      exact p2 n (by omega)
theorem dv_s {A : Nat → Nat} {m a n h : Nat} (ha : a < 8) (hm : m < 256) : dvI (bt A m a h) (n + 1) = if (ed A m a n) / 2 ^ h % 2 = 1 then nI n else dvI (bt A m a h) n := by
  unfold dvI
  rw [fi]
  by_cases c : (ed A m a n).testBit h = true
  · obtain ⟨h1, h2⟩ := (ed_fi ha hm).mp c
    rw [if_pos (tb_iff.mpr c), if_neg h1, if_pos h2, if_pos (by omega)]
  · have c' : ¬ (ed A m a n) / 2 ^ h % 2 = 1 := fun e => c (tb_iff.mp e)
    rw [if_neg c']
    by_cases h1 : fi (bt A m a h) n < n
    · rw [if_pos h1, if_pos h1, if_pos (by omega)]
    · rw [if_neg h1, if_neg h1]
      have h2 : ¬ bt A m a h n = true := fun e => c ((ed_fi ha hm).mpr ⟨h1, e⟩)
      rw [if_neg h2, if_neg (by omega)]
theorem dv_z {A : Nat → Nat} {m a n h : Nat} (ha : a < 8) (hm : m < 256) (hz : ed A m a n = 0) : ∀ k, dvI (bt A m a h) (n + k) = dvI (bt A m a h) n
  | 0 => rfl
  | k + 1 => by
    rw [show n + (k + 1) = n + k + 1 by omega, dv_s ha hm, ed_z hz k, Nat.zero_div, if_neg (by decide)]
    exact dv_z ha hm hz k
/-- how far; 8: no way -/
def ds (A : Nat → Nat) (a b : Nat) : Nat := fi (bt A 255 a b) 8
def dvD (n : Nat) : Int32 := if n < 8 then nI n else -1
theorem dv_8 {A : Nat → Nat} {a b : Nat} : dvI (bt A 255 a b) 8 = dvD (ds A a b) := rfl
theorem ds_le {A : Nat → Nat} {a b : Nat} : ds A a b ≤ 8 := (fi_sp 8).1
