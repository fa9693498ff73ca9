/-! numbers: ints that are naturals -/
theorem s_l31 : ∀ n, n < 32 → ((nI n &&& 31).toBitVec.smod 32).toNat = n := by decide +kernel
theorem n_and (a b : Nat) : nI a &&& nI b = nI (a &&& b) := by
  apply Int32.toBitVec_inj.1
  show BitVec.ofNat 32 a &&& BitVec.ofNat 32 b = BitVec.ofNat 32 (a &&& b)
  apply BitVec.eq_of_getLsbD_eq
  intro i hi
  simp [hi]
theorem n_or (a b : Nat) : nI a ||| nI b = nI (a ||| b) := by
  apply Int32.toBitVec_inj.1
  show BitVec.ofNat 32 a ||| BitVec.ofNat 32 b = BitVec.ofNat 32 (a ||| b)
  apply BitVec.eq_of_getLsbD_eq
  intro i hi
  simp [hi]
theorem n_xor (a b : Nat) : nI a ^^^ nI b = nI (a ^^^ b) := by
  apply Int32.toBitVec_inj.1
  show BitVec.ofNat 32 a ^^^ BitVec.ofNat 32 b = BitVec.ofNat 32 (a ^^^ b)
  apply BitVec.eq_of_getLsbD_eq
  intro i hi
  simp [hi]
theorem n_shl {a k : Nat} (hk : k < 32) (h : a * 2 ^ k < 2 ^ 32) : nI a <<< (nI k &&& 31) = nI (a * 2 ^ k) := pk_shlN _ k (s_l31 k hk) h
theorem n_shr {a k : Nat} (ha : a < 2 ^ 31) (hk : k < 32) : nI a >>> (nI k &&& 31) = nI (a / 2 ^ k) := pk_shrN ha _ k (s_l31 k hk)
theorem n_one {k : Nat} (hk : k < 32) : nI 1 <<< (nI k &&& 31) = nI (2 ^ k) := by
  rw [n_shl hk (by rw [Nat.one_mul]; exact Nat.pow_lt_pow_right (by decide) hk), Nat.one_mul]
theorem n_bit {a k : Nat} (ha : a < 2 ^ 31) (hk : k < 32) : nI a >>> (nI k &&& 31) &&& nI 1 = nI (a / 2 ^ k % 2) := by
  rw [n_shr ha hk, n_and, Nat.and_one_is_mod]
theorem n_sub {a b : Nat} (h : b ≤ a) : nI a - nI b = nI (a - b) := pk_sub h
theorem n_z : (0 : Int32) = nI 0 := rfl
theorem n_m1 : (-1 : Int32) = nI 4294967295 := by decide
/-- a truth as the machine has it -/
def bI (p : Prop) [Decidable p] : Int32 := if p then nI 1 else nI 0
theorem bI_t {p : Prop} [Decidable p] (h : p) : bI p = nI 1 := if_pos h
theorem bI_f {p : Prop} [Decidable p] (h : ¬ p) : bI p = nI 0 := if_neg h
theorem bI_0 {p : Prop} [Decidable p] : (bI p = 0) = ¬ p := by
  apply propext
  by_cases h : p
  · rw [bI_t h]
    simp [h]
    decide
  · rw [bI_f h]
    simp [h]
    decide
/-- an int is a natural below 2^31, or below 0 -/
theorem n_cases (x : Int32) : x < 0 ∨ ∃ n : Nat, n < 2 ^ 31 ∧ x = nI n := by
  by_cases h : x < 0
  · exact Or.inl h
  · exact Or.inr (nI_of h)
/-- how many bits are set -/
def pcF : Nat → Nat → Nat
  | 0, _ => 0
  | f + 1, n => if n = 0 then 0 else pcF f (n &&& (n - 1)) + 1
theorem and_pred_lt {n : Nat} (h : n ≠ 0) : n &&& (n - 1) < n := Nat.lt_of_le_of_lt Nat.and_le_right (by omega)
theorem pcF_up : ∀ (f n : Nat), n ≤ f → pcF (f + 1) n = pcF f n
  | 0, n, h => by
    obtain rfl : n = 0 := by omega
    rfl
  | f + 1, n, h => by
    show (if n = 0 then 0 else pcF (f + 1) (n &&& (n - 1)) + 1) = if n = 0 then 0 else pcF f (n &&& (n - 1)) + 1
    by_cases h0 : n = 0
    · rw [if_pos h0, if_pos h0]
    · rw [if_neg h0, if_neg h0, pcF_up f _ (by have := and_pred_lt h0; omega)]
def pcN (n : Nat) : Nat := pcF n n
theorem pcF_le : ∀ (k f n : Nat), n ≤ f → pcF (f + k) n = pcF f n
  | 0, f, n, h => rfl
  | k + 1, f, n, h => by rw [← Nat.add_assoc, pcF_up (f + k) n (by omega), pcF_le k f n h]
theorem pcN_0 : pcN 0 = 0 := rfl
theorem pcN_s {n : Nat} (h : n ≠ 0) : pcN n = pcN (n &&& (n - 1)) + 1 := by
  unfold pcN
  obtain ⟨m, rfl⟩ : ∃ m, n = m + 1 := ⟨n - 1, by omega⟩
  show (if m + 1 = 0 then 0 else pcF m ((m + 1) &&& (m + 1 - 1)) + 1) = _
  rw [if_neg (by omega)]
  have hl : (m + 1) &&& (m + 1 - 1) ≤ m := Nat.le_of_lt_succ (and_pred_lt (n := m + 1) (by omega))
  congr 1
  obtain ⟨k, hk⟩ := Nat.le.dest hl
  generalize hq : (m + 1) &&& (m + 1 - 1) = q at hk ⊢
  subst hk
  exact pcF_le k q q (Nat.le_refl q)
