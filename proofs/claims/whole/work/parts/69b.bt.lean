/-! ways tried one by one: how many, and the first -/
def foldS {α : Type} (f : Nat → α → α) (s : α) : Nat → α
  | 0 => s
  | h + 1 => f h (foldS f s h)
theorem foldS_s {α : Type} {f : Nat → α → α} {s : α} {h : Nat} : foldS f s (h + 1) = f h (foldS f s h) := rfl
def btA (B : Nat) (ok : Nat → (Nat → Nat) → Nat → Prop) [dk : ∀ k r h, Decidable (ok k r h)] : Nat → Nat → (Nat → Nat) → Nat × (Nat → Int32) → Nat × (Nat → Int32)
  | 0, _, r, s => (s.1 + 1, if s.1 = 0 then fun i => nI (r i) else s.2)
  | n + 1, k, r, s => foldS (fun h s => if ok k r h then btA B ok n (k + 1) (upA r k h) s else s) s B
/-- one candidate -/
def chB (B : Nat) (ok : Nat → (Nat → Nat) → Nat → Prop) [dk : ∀ k r h, Decidable (ok k r h)] (n k : Nat) (r : Nat → Nat) (h : Nat) (s : Nat × (Nat → Int32)) : Nat × (Nat → Int32) := if ok k r h then btA B ok n (k + 1) (upA r k h) s else s
theorem bt_s {B : Nat} {ok : Nat → (Nat → Nat) → Nat → Prop} [dk : ∀ k r h, Decidable (ok k r h)] {n k : Nat} {r : Nat → Nat} {s : Nat × (Nat → Int32)} : btA B ok (n + 1) k r s = foldS (chB B ok n k r) s B := rfl
theorem bt_0 {B : Nat} {ok : Nat → (Nat → Nat) → Nat → Prop} [dk : ∀ k r h, Decidable (ok k r h)] {k : Nat} {r : Nat → Nat} {s : Nat × (Nat → Int32)} : btA B ok 0 k r s = (s.1 + 1, if s.1 = 0 then fun i => nI (r i) else s.2) := rfl
theorem bt_le {B : Nat} {ok : Nat → (Nat → Nat) → Nat → Prop} [dk : ∀ k r h, Decidable (ok k r h)] : ∀ (n k : Nat) (r : Nat → Nat) (s : Nat × (Nat → Int32)), s.1 ≤ (btA B ok n k r s).1 ∧ (btA B ok n k r s).1 ≤ s.1 + B ^ n
  | 0, k, r, s => by
    rw [bt_0]
    exact ⟨Nat.le_succ _, Nat.le_refl _⟩
  | n + 1, k, r, s => by
    rw [bt_s]
    have key : ∀ j, s.1 ≤ (foldS (chB B ok n k r) s j).1 ∧ (foldS (chB B ok n k r) s j).1 ≤ s.1 + j * B ^ n := by
      intro j
      induction j with
      | zero => exact ⟨Nat.le_refl _, by rw [Nat.zero_mul]; exact Nat.le_refl _⟩
      | succ j ih =>
        rw [foldS_s, chB, Nat.succ_mul]
        split
        · have := bt_le (B := B) (ok := ok) n (k + 1) (upA r k j) (foldS (chB B ok n k r) s j)
          omega
        · omega
    have := key B
    rw [Nat.pow_succ, Nat.mul_comm]
    exact this
theorem bt_k {B : Nat} {ok : Nat → (Nat → Nat) → Nat → Prop} [dk : ∀ k r h, Decidable (ok k r h)] : ∀ (n k : Nat) (r : Nat → Nat) (s : Nat × (Nat → Int32)), 0 < s.1 → (btA B ok n k r s).2 = s.2
  | 0, k, r, s, h => by
    rw [bt_0]
    show (if s.1 = 0 then _ else s.2) = s.2
    rw [if_neg (by omega)]
  | n + 1, k, r, s, h => by
    rw [bt_s]
    have key : ∀ j, 0 < (foldS (chB B ok n k r) s j).1 ∧ (foldS (chB B ok n k r) s j).2 = s.2 := by
      intro j
      induction j with
      | zero => exact ⟨h, rfl⟩
      | succ j ih =>
        rw [foldS_s, chB]
        split
        · have h1 := bt_le (B := B) (ok := ok) n (k + 1) (upA r k j) (foldS (chB B ok n k r) s j)
          exact ⟨by omega, (bt_k n (k + 1) (upA r k j) _ ih.1).trans ih.2⟩
        · exact ih
    exact (key B).2
theorem bt_z {B : Nat} {ok : Nat → (Nat → Nat) → Nat → Prop} [dk : ∀ k r h, Decidable (ok k r h)] : ∀ (n k : Nat) (r : Nat → Nat) (s : Nat × (Nat → Int32)), (btA B ok n k r s).1 = 0 → btA B ok n k r s = s
  | 0, k, r, s, h => by
    rw [bt_0] at h
    exact absurd h (Nat.succ_ne_zero _)
  | n + 1, k, r, s, h => by
    rw [bt_s] at h ⊢
    have key : ∀ j, (foldS (chB B ok n k r) s j).1 = 0 → foldS (chB B ok n k r) s j = s := by
      intro j
      induction j with
      | zero => exact fun _ => rfl
      | succ j ih =>
        rw [foldS_s, chB]
        split
        · intro h1
          have h2 := bt_le (B := B) (ok := ok) n (k + 1) (upA r k j) (foldS (chB B ok n k r) s j)
          rw [bt_z n (k + 1) (upA r k j) _ h1]
          exact ih (by omega)
        · exact ih
    exact key B h
theorem bt_i {B : Nat} {ok : Nat → (Nat → Nat) → Nat → Prop} [dk : ∀ k r h, Decidable (ok k r h)] : ∀ (n k : Nat) (r : Nat → Nat) (s t : Nat × (Nat → Int32)), s.1 = t.1 → (0 < s.1 → s.2 = t.2) → (btA B ok n k r s).1 = (btA B ok n k r t).1 ∧ (0 < (btA B ok n k r s).1 → (btA B ok n k r s).2 = (btA B ok n k r t).2)
  | 0, k, r, s, t, h1, h2 => by
    rw [bt_0, bt_0]
    refine ⟨by rw [h1], fun _ => ?_⟩
    show (if s.1 = 0 then _ else s.2) = (if t.1 = 0 then _ else t.2)
    by_cases c : s.1 = 0
    · rw [if_pos c, if_pos (by omega)]
    · rw [if_neg c, if_neg (by omega)]
      exact h2 (by omega)
  | n + 1, k, r, s, t, h1, h2 => by
    rw [bt_s, bt_s]
    have key : ∀ j, (foldS (chB B ok n k r) s j).1 = (foldS (chB B ok n k r) t j).1 ∧ (0 < (foldS (chB B ok n k r) s j).1 → (foldS (chB B ok n k r) s j).2 = (foldS (chB B ok n k r) t j).2) := by
      intro j
      induction j with
      | zero => exact ⟨h1, h2⟩
      | succ j ih =>
        rw [foldS_s, foldS_s, chB, chB]
        split
        · exact bt_i n (k + 1) (upA r k j) _ _ ih.1 ih.2
        · exact ih
    exact key B
/-- houses that were gone through, and those that can come next -/
def skV (r : Nat → Nat) : Nat → Nat
  | 0 => 0
  | k + 1 => skV r k ||| 2 ^ r k
def nkA (A : Nat → Nat) (r : Nat → Nat) : Nat → Nat
  | 0 => 255
  | k + 1 => bes A (r k)
abbrev okR (A : Nat → Nat) (k : Nat) (r : Nat → Nat) (h : Nat) : Prop := (nkA A r k &&& (skV r k ^^^ 4294967295)) / 2 ^ h % 2 = 1
theorem sk_c {r r' : Nat → Nat} : ∀ k, (∀ i, i < k → r' i = r i) → skV r' k = skV r k
  | 0, _ => rfl
  | k + 1, h => by rw [skV, skV, sk_c k (fun i hi => h i (by omega)), h k (by omega)]
theorem sk_u {r : Nat → Nat} {k h : Nat} : skV (upA r k h) (k + 1) = skV r k ||| 2 ^ h := by
  rw [skV, sk_c k (fun i hi => upA_n (by omega)), upA_s]
theorem nk_u {A r : Nat → Nat} {k h : Nat} : nkA A (upA r k h) (k + 1) = bes A h := by
  rw [nkA, upA_s]
theorem sk_lt {r : Nat → Nat} : ∀ k, (∀ i, i < k → r i < 8) → skV r k < 256
  | 0, _ => by rw [skV]; decide
  | k + 1, h => Nat.or_lt_two_pow (n := 8) (sk_lt k (fun i hi => h i (by omega))) (p2_lt (h k (by omega)))
theorem nk_lt {A r : Nat → Nat} {k : Nat} (w : Wf A) : nkA A r k < 256 := by
  cases k with
  | zero => exact (by decide : (255 : Nat) < 256)
  | succ k => exact bes_lt w
theorem okR_i {A r : Nat → Nat} {k h : Nat} (hh : h < 8) : okR A k r h ↔ nkA A r k / 2 ^ h % 2 = 1 ∧ ¬ skV r k / 2 ^ h % 2 = 1 := by
  show (nkA A r k &&& (skV r k ^^^ 4294967295)) / 2 ^ h % 2 = 1 ↔ _
  rw [tb_iff, tb_iff, tb_iff, Nat.testBit_and, ng_bit (by omega), Bool.and_eq_true]
  cases (skV r k).testBit h <;> simp
theorem fd_le {B : Nat} {ok : Nat → (Nat → Nat) → Nat → Prop} [dk : ∀ k r h, Decidable (ok k r h)] {n k : Nat} {r : Nat → Nat} {s : Nat × (Nat → Int32)} : ∀ j, (foldS (chB B ok n k r) s j).1 ≤ s.1 + j * B ^ n
  | 0 => by rw [Nat.zero_mul]; exact Nat.le_refl _
  | j + 1 => by
    have h1 := fd_le (B := B) (ok := ok) (n := n) (k := k) (r := r) (s := s) j
    rw [foldS_s, chB, Nat.succ_mul]
    split
    · have := bt_le (B := B) (ok := ok) n (k + 1) (upA r k j) (foldS (chB B ok n k r) s j)
      omega
    · omega
theorem fd_b {B : Nat} {ok : Nat → (Nat → Nat) → Nat → Prop} [dk : ∀ k r h, Decidable (ok k r h)] {n k j : Nat} {r : Nat → Nat} {s : Nat × (Nat → Int32)} (hj : j < B) (hs : s.1 + B ^ (n + 1) ≤ 2 ^ 30) : (foldS (chB B ok n k r) s j).1 + B ^ n ≤ 2 ^ 30 := by
  have h1 := fd_le (B := B) (ok := ok) (n := n) (k := k) (r := r) (s := s) j
  have h2 := Nat.mul_le_mul_right (B ^ n) (show j + 1 ≤ B from hj)
  rw [Nat.pow_succ, Nat.mul_comm] at hs
  rw [Nat.succ_mul] at h2
  omega
theorem unb8 {x h : Nat} (hx : x < 256) (hh : h < 8) (hn : ¬ x / 2 ^ h % 2 = 1) : (x ||| 2 ^ h) &&& (2 ^ h ^^^ 4294967295) = x := by
  rw [tb_iff] at hn
  apply Nat.eq_of_testBit_eq
  intro i
  by_cases hi : i < 8
  · rw [Nat.testBit_and, Nat.testBit_or, ng_bit (by omega), Nat.testBit_two_pow]
    by_cases e : h = i
    · subst e
      rw [decide_eq_true rfl, Bool.not_true, Bool.and_false]
      cases c : x.testBit h
      · rfl
      · exact absurd c hn
    · rw [decide_eq_false e, Bool.or_false, Bool.not_false, Bool.and_true]
  · have z : ∀ y, y < 256 → y.testBit i = false := fun y hy => by
      cases c : y.testBit i
      · rfl
      · exact absurd (tb_lt hy c) hi
    rw [Nat.testBit_and, z _ hx, z _ (Nat.or_lt_two_pow (n := 8) hx (p2_lt hh)), Bool.false_and]
theorem lv_m {k : Nat} (hk : k ≤ 8) : nI k + (-1) = enB k := by
  have : k = 0 ∨ k = 1 ∨ k = 2 ∨ k = 3 ∨ k = 4 ∨ k = 5 ∨ k = 6 ∨ k = 7 ∨ k = 8 := by omega
  rcases this with rfl | rfl | rfl | rfl | rfl | rfl | rfl | rfl | rfl <;> decide
theorem m1_p : (-1 : Int32) + nI 1 = nI 0 := by decide
