/-! what the texts behind this stand on: reading behind writing, truths, ranges, loops -/
theorem uI_s {I : Nat → Nat → Int32} {c k : Nat} {v : Int32} : uI I c k v c k = v := if_pos ⟨rfl, rfl⟩
theorem uI_n {I : Nat → Nat → Int32} {c k c' k' : Nat} {v : Int32} (h : c' ≠ c ∨ k' ≠ k) : uI I c k v c' k' = I c' k' := if_neg (by omega)
theorem uI_e {I : Nat → Nat → Int32} {c k k' : Nat} {v : Int32} (h : k' = k) : uI I c k v c k' = v := if_pos ⟨rfl, h⟩
theorem uC_i {I : Nat → Nat → Int32} {c0 c1 sp dp n k : Nat} (h : dp ≤ k ∧ k < dp + n) : uC I c0 c1 sp dp n c1 k = I c0 (sp + (k - dp)) := if_pos ⟨rfl, h.1, h.2⟩
theorem uC_n {I : Nat → Nat → Int32} {c0 c1 sp dp n c k : Nat} (h : c ≠ c1 ∨ k < dp ∨ dp + n ≤ k) : uC I c0 c1 sp dp n c k = I c k := if_neg (by omega)
theorem bI_n0 {p : Prop} [Decidable p] : (bI p = nI 0) = ¬ p := bI_0
theorem bI_1 {p : Prop} [Decidable p] : (bI p = 1) = p := by
  apply propext
  by_cases h : p
  · rw [bI_t h]
    simp [h]
    decide
  · rw [bI_f h]
    simp [h]
    decide
theorem bI_n1 {p : Prop} [Decidable p] : (bI p = nI 1) = p := bI_1
theorem bI_01 (p : Prop) [Decidable p] : bI p = 0 ∨ bI p = 1 := by
  unfold bI
  split
  · exact Or.inr rfl
  · exact Or.inl rfl
theorem iter {α : Type} (P : Nat → α) : ∀ (n m : Nat), (∀ j, m ≤ j → j < m + n → P j = P (j + 1)) → P m = P (m + n)
  | 0, _, _ => rfl
  | n + 1, m, h => by
    rw [iter P n m (fun j h1 h2 => h j h1 (by omega)), h (m + n) (by omega) (by omega)]
    rfl
theorem iter0 {α : Type} (P : Nat → α) (n : Nat) (h : ∀ j, j < n → P j = P (j + 1)) : P 0 = P n := by
  have := iter P n 0 (fun j _ h2 => h j (by omega))
  rwa [Nat.zero_add] at this
/-- an int that is a natural below n -/
def inR (x : Int32) (n : Nat) : Prop := ∃ k : Nat, k < n ∧ x = nI k
theorem inR_f {x : Int32} {n : Nat} (h : ¬ inR x n) (hn : n < 2 ^ 31) : x < nI 0 ∨ nI n ≤ x := by
  rcases pk_ix x hn with h1 | h1 | ⟨j, h1, rfl⟩
  · exact Or.inl h1
  · exact Or.inr h1
  · exact absurd ⟨j, h1, rfl⟩ h
theorem nr_f {x : Int32} {m : Nat} (h : ¬ inR x (m + 1)) (hn : m + 1 < 2 ^ 31) : (nI 0 ≤ x ∧ x ≤ nI m) = False := by
  apply eq_false
  rintro ⟨h1, h2⟩
  rcases inR_f h hn with h3 | h3
  · exact absurd h3 (Int32.not_lt.mpr h1)
  · exact absurd (Int32.le_trans h3 h2) (nI_ge (by omega) (by omega))
theorem n_m1e {a : Nat} (ha : a < 2 ^ 31) : (nI a = -1) = False := by
  apply eq_false
  intro h
  have h1 := congrArg Int32.toInt h
  rw [nI_toInt ha] at h1
  have : (-1 : Int32).toInt = -1 := by decide
  omega
theorem n_m1e' {a : Nat} (ha : a < 2 ^ 31) : ((-1 : Int32) = nI a) = False := by
  exact (propext eq_comm : ((-1 : Int32) = nI a) = (nI a = -1)).trans (n_m1e ha)
theorem n_m1l {a : Nat} (ha : a < 2 ^ 31) : ((-1 : Int32) ≤ nI a) = True := by
  apply eq_true
  rw [Int32.le_iff_toInt_le, nI_toInt ha]
  have : (-1 : Int32).toInt = -1 := by decide
  omega
theorem n_m1g {a : Nat} (ha : a < 2 ^ 31) : (nI a ≤ (-1 : Int32)) = False := by
  apply eq_false
  rw [Int32.le_iff_toInt_le, nI_toInt ha]
  have : (-1 : Int32).toInt = -1 := by decide
  omega
theorem n_m1lt {a : Nat} (ha : a < 2 ^ 31) : ((-1 : Int32) < nI a) = True := by
  apply eq_true
  rw [Int32.lt_iff_toInt_lt, nI_toInt ha]
  have : (-1 : Int32).toInt = -1 := by decide
  omega
theorem n_m1gt {a : Nat} (ha : a < 2 ^ 31) : (nI a < (-1 : Int32)) = False := by
  apply eq_false
  rw [Int32.lt_iff_toInt_lt, nI_toInt ha]
  have : (-1 : Int32).toInt = -1 := by decide
  omega
/-- the natural that an int's bits are -/
def vN (x : Int32) : Nat := x.toBitVec.toNat
theorem nI_vN (x : Int32) : nI (vN x) = x := by
  apply Int32.toBitVec_inj.1
  show BitVec.ofNat 32 x.toBitVec.toNat = x.toBitVec
  simp
theorem vN_nI {n : Nat} (h : n < 2 ^ 32) : vN (nI n) = n := pk_tn h
section Spec0
variable {sc : Sc} {d : Nat} {I : Nat → Nat → Int32} {J : Nat → Nat → Int64} {T : Option Nat} {Q : Option Value → Mm → Prop}
theorem sp_isIn {v lo hi : Int32} : Rn sc d 169 0 [some (.int v), some (.int lo), some (.int hi)] [] (K0, I, J, R1 T) Q = Q (some (.int (bI (lo ≤ v ∧ v ≤ hi)))) (K0, I, J, R1 T) := by
  simp (disch := first | assumption | omega | decide) only [x169_0, x169_1, x169_2, x169_3, x169_4, x169_5, x169_6, x169_7, x169_8, x169_9]
  by_cases h1 : v < lo
  · rw [if_pos h1, bI_f (fun h => absurd h1 (Int32.not_lt.mpr h.1))]
  · rw [if_neg h1]
    by_cases h2 : hi < v
    · rw [if_pos h2, bI_f (fun h => absurd h2 (Int32.not_lt.mpr h.2))]
    · rw [if_neg h2, bI_t ⟨Int32.not_lt.mp h1, Int32.not_lt.mp h2⟩]
theorem sp_isWithin {v lo hi : Int32} : Rn sc d 166 0 [some (.int v), some (.int lo), some (.int hi)] [] (K0, I, J, R1 T) Q = Q (some (.int (bI (lo ≤ v ∧ v ≤ hi)))) (K0, I, J, R1 T) := by
  simp (disch := first | assumption | omega | decide) only [x166_0, x166_1, x166_2, x166_3, x166_4, x166_5, x166_6, x166_7, x166_8, x166_9]
  by_cases h1 : v < lo
  · rw [if_pos h1, bI_f (fun h => absurd h1 (Int32.not_lt.mpr h.1))]
  · rw [if_neg h1]
    by_cases h2 : hi < v
    · rw [if_pos h2, bI_f (fun h => absurd h2 (Int32.not_lt.mpr h.2))]
    · rw [if_neg h2, bI_t ⟨Int32.not_lt.mp h1, Int32.not_lt.mp h2⟩]
theorem sp_has {a k : Nat} (ha : a < 2 ^ 31) (hk : k < 32) : Rn sc d 171 0 [some (.int (nI a)), some (.int (nI k))] [] (K0, I, J, R1 T) Q = Q (some (.int (bI (a / 2 ^ k % 2 = 1)))) (K0, I, J, R1 T) := by
  simp (disch := first | assumption | omega | decide) only [x171_0, x171_1, x171_2, x171_3, x171_4, x171_5, x171_6, x171_7, x171_8, x171_9, x171_10, n_bit ha hk]
  have e1 : (nI (a / 2 ^ k % 2) = nI 1) = (a / 2 ^ k % 2 = 1) := propext (nI_eq (by omega) (by omega))
  simp only [e1]
  by_cases h : a / 2 ^ k % 2 = 1
  · rw [if_neg (by simpa using h), bI_t h]
  · rw [if_pos h, bI_f h]
theorem sp_isHouse {h : Int32} : Rn sc (d + 1) 173 0 [some (.int h)] [] (K0, I, J, R1 T) Q = Q (some (.int (bI (nI 0 ≤ h ∧ h ≤ nI 7)))) (K0, I, J, R1 T) := by
  simp (disch := first | assumption | omega | decide) only [x173_0, x173_1, x173_2, x173_3, sp_isIn, Option.toList, List.append_nil]
  rw [x173_4 (bI_01 _)]
theorem sp_isHouseC {h : Int32} : Rn sc d 164 0 [some (.int h)] [] (K0, I, J, R1 T) Q = Q (some (.int (bI (nI 0 ≤ h ∧ h ≤ nI 7)))) (K0, I, J, R1 T) := by
  simp (disch := first | assumption | omega | decide) only [x164_0, x164_1, x164_2, x164_3, x164_4, x164_5, x164_6, x164_7, x164_8]
  by_cases hr : inR h 8
  · obtain ⟨k, hk, rfl⟩ := hr
    simp (disch := first | assumption | omega | decide) only [n_z, nI_ltI, nI_leI, Nat.not_lt_zero, if_false, Nat.zero_le, true_and]
    rw [if_neg (by omega), bI_t (by omega)]
  · rcases inR_f hr (by decide) with h1 | h1
    · rw [if_pos (show h < 0 from h1), bI_f (by rw [nr_f hr (by decide)]; exact fun h => h)]
    · rw [if_pos h1, ite_self, bI_f (by rw [nr_f hr (by decide)]; exact fun h => h)]
theorem lp_bits {l0 : Int32} : ∀ (n a : Nat), n < 2 ^ 31 → Rn sc d 172 4 [some (.int l0), some (.int (nI a)), some (.int (nI n))] [] (K0, I, J, R1 T) Q = Q (some (.int (nI (a + pcN n)))) (K0, I, J, R1 T) := by
  intro n
  induction n using Nat.strongRecOn with
  | _ n ih =>
    intro a hn
    rw [x172_4]
    simp (disch := first | assumption | omega | decide) only [x172_0, x172_1, x172_2, x172_3, x172_5, x172_6, x172_7, x172_8, x172_9, x172_10, x172_11, x172_12, x172_13, x172_14, x172_15, n_z, nI_eq hn (by decide : (0 : Nat) < 2 ^ 31)]
    by_cases h0 : n = 0
    · subst h0
      rw [if_pos rfl, pcN_0, Nat.add_zero]
    · rw [if_neg h0, n_sub (by omega), n_and, nI_add, ih _ (and_pred_lt h0) (a + 1) (by have := and_pred_lt h0; omega), pcN_s h0]
      rw [show a + 1 + pcN (n &&& (n - 1)) = a + (pcN (n &&& (n - 1)) + 1) by omega]
theorem sp_bits {n : Nat} (hn : n < 2 ^ 31) : Rn sc d 172 0 [some (.int (nI n)), none, none] [] (K0, I, J, R1 T) Q = Q (some (.int (nI (pcN n)))) (K0, I, J, R1 T) := by
  simp (disch := first | assumption | omega | decide) only [x172_0, x172_1, x172_2, x172_3]
  rw [lp_bits n 0 hn, Nat.zero_add]
def us32 (x : Int32) (k : Nat) : Int32 := (x.toUInt32 >>> ((nI k).toUInt32 &&& Int32.toUInt32 31)).toInt32
def bc1 (x : Int32) : Int32 := x - (us32 x 1 &&& nI 1431655765)
def bc2 (x : Int32) : Int32 := (x &&& nI 858993459) + (us32 x 2 &&& nI 858993459)
def bc3 (x : Int32) : Int32 := (x + us32 x 4) &&& nI 252645135
def bc4 (x : Int32) : Int32 := x + us32 x 8
def bc5 (x : Int32) : Int32 := x + us32 x 16
def bcI (x : Int32) : Int32 := bc5 (bc4 (bc3 (bc2 (bc1 x)))) &&& nI 63
theorem bc_all : ∀ n, n < 256 → bcI (nI n) = nI (pcN n) := by decide +kernel
theorem sp_bitCount {n : Nat} (hn : n < 256) : Rn sc d 306 0 [some (.int (nI n))] [] (K0, I, J, R1 T) Q = Q (some (.int (nI (pcN n)))) (K0, I, J, R1 T) := by
  rw [← bc_all n hn]
  simp (disch := first | assumption | omega | decide) only [x306_0, x306_1, x306_2, x306_3, x306_4, x306_5, x306_6, x306_7, x306_8, x306_9, x306_10, x306_11, x306_12, x306_13, x306_14, x306_15, x306_16, x306_17, x306_18, x306_19, x306_20, x306_21, x306_22, x306_23, x306_24, x306_25, x306_26, x306_27, x306_28, x306_29, x306_30, x306_31, x306_32, x306_33, x306_34, x306_35, x306_36, x306_37, x306_38, x306_39, x306_40, x306_41]
  rfl
def lowN (n : Nat) : Nat := pcN ((n - 1) &&& (255 - n))
theorem lw_all : ∀ n, n < 256 → 0 < n → (nI n - nI 1) &&& (nI n ^^^ (-1)) = nI ((n - 1) &&& (255 - n)) := by decide +kernel
theorem lw_lt : ∀ n, n < 256 → 0 < n → (n - 1) &&& (255 - n) < 256 := by decide +kernel
theorem sp_lowestIn {n : Nat} (hn : n < 256) (h0 : 0 < n) : Rn sc (d + 1) 165 0 [some (.int (nI n))] [] (K0, I, J, R1 T) Q = Q (some (.int (nI (lowN n)))) (K0, I, J, R1 T) := by
  simp (disch := first | assumption | omega | decide) only [x165_0, x165_1, x165_2, x165_3, x165_4, x165_5, x165_6, x165_7, lw_all n hn h0, sp_bitCount (lw_lt n hn h0), Option.toList, List.nil_append, List.cons_append, x165_8]
  rfl
end Spec0
