/-! the state: A is the reference's row as naturals; what the class holds is told by it -/
theorem bT {i : Decidable True} : @bI True i = nI 1 := if_pos trivial
theorem bF {i : Decidable False} : @bI False i = nI 0 := if_neg id
theorem n_rem {a d : Nat} : nI a - nI (a / d * d) = nI (a % d) := by
  rw [n_sub (Nat.div_mul_le_self a d)]
  congr 1
  have := Nat.div_add_mod a d
  rw [Nat.mul_comm] at this
  omega
def upA (A : Nat → Nat) (k v : Nat) : Nat → Nat := fun j => if j = k then v else A j
theorem upA_s {A : Nat → Nat} {k v : Nat} : upA A k v k = v := if_pos rfl
theorem upA_n {A : Nat → Nat} {k v j : Nat} (h : j ≠ k) : upA A k v j = A j := if_neg h
theorem upA_e {A : Nat → Nat} {k v j : Nat} (h : j = k) : upA A k v j = v := if_pos h
/-- the houses beside h, by the first roads -/
def bsN (A : Nat → Nat) (h : Nat) : Nat → Nat
  | 0 => 0
  | j + 1 => bsN A h j ||| (if A (40 + 2 * j) = h then 2 ^ A (40 + 2 * j + 1) else if A (40 + 2 * j + 1) = h then 2 ^ A (40 + 2 * j) else 0)
def bes (A : Nat → Nat) (h : Nat) : Nat := bsN A h (A 0)
/-- who keeps r, by what the first houses keep -/
def kpN (K : Nat → Nat) (r : Nat) : Nat → Nat
  | 0 => 0
  | h + 1 => kpN K r h ||| (if K h / 2 ^ r % 2 = 1 then 2 ^ h else 0)
def kpr (A : Nat → Nat) (r : Nat) : Nat := kpN (fun h => A (12 + h)) r 8
/-- what was kept, in one number -/
def pkN (K : Nat → Nat) : Nat → Nat
  | 0 => 0
  | r + 1 => pkN K r ||| (K r * 2 ^ (r * 8))
def AtM (I : Nat → Nat → Int32) (c : Nat) (A : Nat → Nat) : Prop := ∀ k, k < 1799 → I c k = nI (A k)
def Wf1 (A : Nat → Nat) : Prop := A 0 ≤ 12 ∧ A 1 ≤ 4 ∧ A 2 ≤ 4 ∧ (A 3 = 4294967295 ∨ A 3 < A 2) ∧ A 4 ≤ 30 ∧ A 5 ≤ 8 ∧ A 6 ≤ 7 ∧ A 7 ≤ 8 ∧ A 8 ≤ 9999 ∧ A 9 < 30881 ∧ A 10 < 1000000 ∧ A 11 ≤ 30
def Wf2 (A : Nat → Nat) : Prop := (∀ h, h < 8 → A (12 + h) < 2 ^ A 1) ∧ (∀ h, h < 8 → A (20 + h) ≤ 9999) ∧ (∀ h, h < 8 → A (32 + h) ≤ 4) ∧ (∀ r, r < 4 → A (28 + r) ≤ 9999) ∧ (∀ r, r < 4 → A (64 + r) ≤ 1) ∧ (∀ r, r < 4 → A (68 + r) ≤ 999) ∧ (∀ i, i < 30 → A (1769 + i) < 320000)
def Wf3 (A : Nat → Nat) : Prop := (∀ j, j < A 0 → A (40 + 2 * j) < 8 ∧ A (40 + 2 * j + 1) < 8 ∧ A (40 + 2 * j) ≠ A (40 + 2 * j + 1)) ∧ (∀ j i, i < j → j < A 0 → ¬ (A (40 + 2 * i) = A (40 + 2 * j) ∧ A (40 + 2 * i + 1) = A (40 + 2 * j + 1)) ∧ ¬ (A (40 + 2 * i) = A (40 + 2 * j + 1) ∧ A (40 + 2 * i + 1) = A (40 + 2 * j)))
def Wf4 (A : Nat → Nat) : Prop := (∀ j, j < A 5 → A (72 + 2 * j) < 8 ∧ A (72 + 2 * j + 1) ≤ 99) ∧ (∀ j, j < A 6 → 1 ≤ A (88 + j) ∧ A (88 + j) ≤ 4) ∧ (∀ j, j < A 7 → A (95 + 3 * j) < 8 ∧ A (95 + 3 * j + 1) < A 1 ∧ A (95 + 3 * j + 2) ≤ 99)
/-- a step that was kept at x -/
def Wrow (A : Nat → Nat) (x : Nat) : Prop := A x ≤ A 1 ∧ A (x + 1) ≤ 9999 ∧ A (x + 2) < 30881 ∧ A (x + 3) < 1000000 ∧ A (x + 4) ≤ 30 ∧ (∀ h, h < 8 → A (x + 5 + h) < 2 ^ A x) ∧ (∀ h, h < 8 → A (x + 13 + h) ≤ 9999) ∧ (∀ r, r < 4 → A (x + 21 + r) ≤ 9999) ∧ (∀ i, i < 30 → A (x + 25 + i) < 320000)
def Wf5 (A : Nat → Nat) : Prop := ∀ j, j < A 4 → Wrow A (119 + 55 * j)
def Wf (A : Nat → Nat) : Prop := Wf1 A ∧ Wf2 A ∧ Wf3 A ∧ Wf4 A ∧ Wf5 A
/-- a town of the class -/
def Twn (I : Nat → Nat → Int32) (b c1 c2 c3 c4 c5 c6 c7 c8 : Nat) (A : Nat → Nat) : Prop :=
  (∀ h, h < 8 → I c1 h = nI (A (32 + h))) ∧ (∀ h, h < 8 → I c2 h = nI (A (20 + h))) ∧ (∀ h, h < 8 → I c3 h = nI (bes A h)) ∧ (∀ r, r < A 1 → I c4 r = nI (A (64 + r))) ∧ (∀ r, r < A 1 → I c5 r = nI (A (28 + r))) ∧ (∀ r, r < A 1 → I c6 r = nI (A (68 + r))) ∧ (∀ r, r < A 1 → I c7 r = nI (kpr A r)) ∧ (∀ i, i < 30 → I c8 i = nI (A (1769 + i))) ∧ I b 8 = nI (A 11) ∧ I b 9 = nI (A 0) ∧ I b 10 = nI (A 1) ∧ I b 11 = nI (A 8) ∧ I b 12 = nI (A 9) ∧ I b 13 = nI (A 10) ∧ I b 14 = nI (A 2) ∧ I b 15 = nI (A 3)
theorem tw_rooms {I : Nat → Nat → Int32} {b c1 c2 c3 c4 c5 c6 c7 c8 : Nat} {A : Nat → Nat} (t : Twn I b c1 c2 c3 c4 c5 c6 c7 c8 A) {h : Nat} (hh : h < 8) : I c1 h = nI (A (32 + h)) := t.1 h hh
theorem tw_income {I : Nat → Nat → Int32} {b c1 c2 c3 c4 c5 c6 c7 c8 : Nat} {A : Nat → Nat} (t : Twn I b c1 c2 c3 c4 c5 c6 c7 c8 A) {h : Nat} (hh : h < 8) : I c2 h = nI (A (20 + h)) := t.2.1 h hh
theorem tw_beside {I : Nat → Nat → Int32} {b c1 c2 c3 c4 c5 c6 c7 c8 : Nat} {A : Nat → Nat} (t : Twn I b c1 c2 c3 c4 c5 c6 c7 c8 A) {h : Nat} (hh : h < 8) : I c3 h = nI (bes A h) := t.2.2.1 h hh
theorem tw_truth {I : Nat → Nat → Int32} {b c1 c2 c3 c4 c5 c6 c7 c8 : Nat} {A : Nat → Nat} (t : Twn I b c1 c2 c3 c4 c5 c6 c7 c8 A) {r : Nat} (hr : r < A 1) : I c4 r = nI (A (64 + r)) := t.2.2.2.1 r hr
theorem tw_purse {I : Nat → Nat → Int32} {b c1 c2 c3 c4 c5 c6 c7 c8 : Nat} {A : Nat → Nat} (t : Twn I b c1 c2 c3 c4 c5 c6 c7 c8 A) {r : Nat} (hr : r < A 1) : I c5 r = nI (A (28 + r)) := t.2.2.2.2.1 r hr
theorem tw_told {I : Nat → Nat → Int32} {b c1 c2 c3 c4 c5 c6 c7 c8 : Nat} {A : Nat → Nat} (t : Twn I b c1 c2 c3 c4 c5 c6 c7 c8 A) {r : Nat} (hr : r < A 1) : I c6 r = nI (A (68 + r)) := t.2.2.2.2.2.1 r hr
theorem tw_keepers {I : Nat → Nat → Int32} {b c1 c2 c3 c4 c5 c6 c7 c8 : Nat} {A : Nat → Nat} (t : Twn I b c1 c2 c3 c4 c5 c6 c7 c8 A) {r : Nat} (hr : r < A 1) : I c7 r = nI (kpr A r) := t.2.2.2.2.2.2.1 r hr
theorem tw_pages {I : Nat → Nat → Int32} {b c1 c2 c3 c4 c5 c6 c7 c8 : Nat} {A : Nat → Nat} (t : Twn I b c1 c2 c3 c4 c5 c6 c7 c8 A) {i : Nat} (hi : i < 30) : I c8 i = nI (A (1769 + i)) := t.2.2.2.2.2.2.2.1 i hi
theorem tw_written {I : Nat → Nat → Int32} {b c1 c2 c3 c4 c5 c6 c7 c8 : Nat} {A : Nat → Nat} (t : Twn I b c1 c2 c3 c4 c5 c6 c7 c8 A) : I b 8 = nI (A 11) := t.2.2.2.2.2.2.2.2.1
theorem tw_roads {I : Nat → Nat → Int32} {b c1 c2 c3 c4 c5 c6 c7 c8 : Nat} {A : Nat → Nat} (t : Twn I b c1 c2 c3 c4 c5 c6 c7 c8 A) : I b 9 = nI (A 0) := t.2.2.2.2.2.2.2.2.2.1
theorem tw_rumours {I : Nat → Nat → Int32} {b c1 c2 c3 c4 c5 c6 c7 c8 : Nat} {A : Nat → Nat} (t : Twn I b c1 c2 c3 c4 c5 c6 c7 c8 A) : I b 10 = nI (A 1) := t.2.2.2.2.2.2.2.2.2.2.1
theorem tw_day {I : Nat → Nat → Int32} {b c1 c2 c3 c4 c5 c6 c7 c8 : Nat} {A : Nat → Nat} (t : Twn I b c1 c2 c3 c4 c5 c6 c7 c8 A) : I b 11 = nI (A 8) := t.2.2.2.2.2.2.2.2.2.2.2.1
theorem tw_x {I : Nat → Nat → Int32} {b c1 c2 c3 c4 c5 c6 c7 c8 : Nat} {A : Nat → Nat} (t : Twn I b c1 c2 c3 c4 c5 c6 c7 c8 A) : I b 12 = nI (A 9) := t.2.2.2.2.2.2.2.2.2.2.2.2.1
theorem tw_paid {I : Nat → Nat → Int32} {b c1 c2 c3 c4 c5 c6 c7 c8 : Nat} {A : Nat → Nat} (t : Twn I b c1 c2 c3 c4 c5 c6 c7 c8 A) : I b 13 = nI (A 10) := t.2.2.2.2.2.2.2.2.2.2.2.2.2.1
theorem tw_texts {I : Nat → Nat → Int32} {b c1 c2 c3 c4 c5 c6 c7 c8 : Nat} {A : Nat → Nat} (t : Twn I b c1 c2 c3 c4 c5 c6 c7 c8 A) : I b 14 = nI (A 2) := t.2.2.2.2.2.2.2.2.2.2.2.2.2.2.1
theorem tw_ruling {I : Nat → Nat → Int32} {b c1 c2 c3 c4 c5 c6 c7 c8 : Nat} {A : Nat → Nat} (t : Twn I b c1 c2 c3 c4 c5 c6 c7 c8 A) : I b 15 = nI (A 3) := t.2.2.2.2.2.2.2.2.2.2.2.2.2.2.2
/-- a row of the class, the step at x -/
def Srow (I : Nat → Nat → Int32) (r R : Nat) (A : Nat → Nat) (x : Nat) : Prop :=
    (∀ h, h < 8 → I r (R + h) = nI (A (x + 13 + h))) ∧
    (∀ k, k < A x → I r (R + 8 + k) = nI (A (x + 21 + k))) ∧
    I r (R + 12) = nI (pkN (kpN (fun h => A (x + 5 + h)) · 8) (A x)) ∧
    I r (R + 13) = nI (A x) ∧
    I r (R + 14) = nI (A (x + 3)) ∧
    I r (R + 15) = nI (A (x + 1)) ∧
    I r (R + 16) = nI (A (x + 2)) ∧
    I r (R + 17) = nI (A (x + 4)) ∧
    (∀ i, i < 30 → I r (R + 18 + i) = nI (A (x + 25 + i)))
/-- the steps of the class: a round of rows -/
def Stw (I : Nat → Nat → Int32) (s r : Nat) (A : Nat → Nat) : Prop :=
  ∃ f, f < 30 ∧ I s 1 = nI f ∧ I s 2 = nI (A 4) ∧ ∀ j, j < A 4 → Srow I r (48 * ((f + j) % 30)) A (119 + 55 * j)
/-- what was noted -/
def Nts (I : Nat → Nat → Int32) (b c1 c2 c3 c4 c5 c6 : Nat) (A : Nat → Nat) : Prop :=
  I b 2 = nI (A 5) ∧ I b 4 = nI (A 6) ∧ I b 8 = nI (A 7) ∧ (∀ j, j < A 5 → I c1 j = nI (A (72 + 2 * j)) ∧ I c2 j = nI (A (72 + 2 * j + 1))) ∧ (∀ j, j < A 6 → I c3 j = nI (A (88 + j))) ∧ (∀ j, j < A 7 → I c4 j = nI (A (95 + 3 * j)) ∧ I c5 j = nI (A (95 + 3 * j + 1)) ∧ I c6 j = nI (A (95 + 3 * j + 2)))
/-- the tape and the last fault -/
def Tpe (I : Nat → Nat → Int32) : Prop := (∃ n, n ≤ 300 ∧ I 67 1 = nI n ∧ I 89 4 = nI n ∧ ∀ k, k < n → ∃ v, v < 256 ∧ I 68 k = nI v ∧ I 93 k = nI v) ∧ I 67 2 = I 89 5 ∧ I 67 3 = I 89 6
/-- what of the memory is the texts' -/
def txI (I : Nat → Nat → Int32) : Nat → Nat → Int32 := fun c k => if (46 ≤ c ∧ c ≤ 66) ∨ c = 92 then I c k else 0
/-- the class's side -/
def CI (I : Nat → Nat → Int32) (A B : Nat → Nat) : Prop := Twn I 1 2 3 4 5 6 7 8 9 A ∧ Twn I 10 11 12 13 14 15 16 17 18 B ∧ Stw I 28 29 A ∧ Stw I 30 31 B ∧ Nts I 32 33 34 35 36 37 38 A ∧ Nts I 39 40 41 42 43 44 45 B
/-- the reference's side -/
def MI (I : Nat → Nat → Int32) (A B : Nat → Nat) : Prop := AtM I 90 A ∧ AtM I 91 B ∧ I 89 23 = nI 1
def WW (A B : Nat → Nat) : Prop := Wf A ∧ Wf B ∧ B 2 ≤ A 2
/-- what a call on either side comes to, told of the row -/
def JtB (sc : Sc) (d mx my : Nat) (ex ey : Lo) (A B : Nat → Nat) (M : Nat → Nat → Int32) : Prop := ∃ (v : Int32) (A' B' : Nat → Nat), WW A' B' ∧ A' 2 ≤ A 2 ∧
  (∀ I J T, CI I A B → txI I = M → ∃ I1, (∀ c k, (46 ≤ c ∧ c ≤ 68) ∨ 89 ≤ c → I1 c k = I c k) ∧ CI I1 A' B' ∧ ∀ Q, Rn sc d mx 0 ex [] (K0, I, J, R1 T) Q = Q (some (.int v)) (K0, I1, J, R1 T)) ∧
  (∀ I J T, MI I A B → txI I = M → ∃ I2 J2, ((∀ c k, c ≤ 68 ∨ c = 92 ∨ c = 93 → I2 c k = I c k) ∧ ∀ k, k = 4 ∨ k = 5 ∨ k = 6 → I2 89 k = I 89 k) ∧ MI I2 A' B' ∧ ∀ Q, Rn sc d my 0 ey [] (K0, I, J, R1 T) Q = Q (some (.int v)) (K0, I2, J2, R1 T))
/-- the same, and what kind of number it is -/
def JtBP (P : Int32 → Prop) (sc : Sc) (d mx my : Nat) (ex ey : Lo) (A B : Nat → Nat) (M : Nat → Nat → Int32) : Prop := ∃ (v : Int32) (A' B' : Nat → Nat), P v ∧ WW A' B' ∧ A' 2 ≤ A 2 ∧
  (∀ I J T, CI I A B → txI I = M → ∃ I1, (∀ c k, (46 ≤ c ∧ c ≤ 68) ∨ 89 ≤ c → I1 c k = I c k) ∧ CI I1 A' B' ∧ ∀ Q, Rn sc d mx 0 ex [] (K0, I, J, R1 T) Q = Q (some (.int v)) (K0, I1, J, R1 T)) ∧
  (∀ I J T, MI I A B → txI I = M → ∃ I2 J2, ((∀ c k, c ≤ 68 ∨ c = 92 ∨ c = 93 → I2 c k = I c k) ∧ ∀ k, k = 4 ∨ k = 5 ∨ k = 6 → I2 89 k = I 89 k) ∧ MI I2 A' B' ∧ ∀ Q, Rn sc d my 0 ey [] (K0, I, J, R1 T) Q = Q (some (.int v)) (K0, I2, J2, R1 T))
def P1 (v : Int32) : Prop := v = -1 ∨ ∃ n, n < 2 ^ 31 ∧ v = nI n
def P2 (v : Int32) : Prop := v = nI 0 ∨ v = nI 1
section Inv
variable (TX : (Nat → Nat → Int32) → Nat → Prop)
def TT (M : Nat → Nat → Int32) (A : Nat → Nat) : Prop := ∀ t, t < A 2 → TX M t
def InvA (I : Nat → Nat → Int32) (A B : Nat → Nat) : Prop := CI I A B ∧ MI I A B ∧ WW A B ∧ Tpe I ∧ TT TX (txI I) A
def Inv (I : Nat → Nat → Int32) (_ : Nat → Nat → Int64) (_ : Option Nat) : Prop := ∃ A B, InvA TX I A B
def JtP (P : Int32 → Prop) (sc : Sc) (d mx my : Nat) (ex ey : Lo) : Prop := ∀ A B M, WW A B → TT TX M A → JtBP P sc d mx my ex ey A B M
def Jt (sc : Sc) (d mx my : Nat) (ex ey : Lo) : Prop := ∀ A B M, WW A B → TT TX M A → JtB sc d mx my ex ey A B M
end Inv
/-! what changes nothing -/
theorem bsN_c {A A' : Nat → Nat} {h : Nat} : ∀ (n : Nat), (∀ j, j < 2 * n → A' (40 + j) = A (40 + j)) → bsN A' h n = bsN A h n
  | 0, _ => rfl
  | n + 1, hh => by
    unfold bsN
    rw [bsN_c n (fun j hj => hh j (by omega)), hh (2 * n) (by omega), show 40 + 2 * n + 1 = 40 + (2 * n + 1) by omega, hh (2 * n + 1) (by omega)]
theorem kpN_c {K K' : Nat → Nat} {r : Nat} : ∀ (n : Nat), (∀ j, j < n → K' j = K j) → kpN K' r n = kpN K r n
  | 0, _ => rfl
  | n + 1, hh => by
    unfold kpN
    rw [kpN_c n (fun j hj => hh j (by omega)), hh n (by omega)]
theorem pkN_c {K K' : Nat → Nat} : ∀ (n : Nat), (∀ j, j < n → K' j = K j) → pkN K' n = pkN K n
  | 0, _ => rfl
  | n + 1, hh => by
    unfold pkN
    rw [pkN_c n (fun j hj => hh j (by omega)), hh n (by omega)]
theorem Twn_c {I I' : Nat → Nat → Int32} {b c1 c2 c3 c4 c5 c6 c7 c8 : Nat} {A A' : Nat → Nat} (t : Twn I b c1 c2 c3 c4 c5 c6 c7 c8 A) (h1 : ∀ c k, c = b ∨ c = c1 ∨ c = c2 ∨ c = c3 ∨ c = c4 ∨ c = c5 ∨ c = c6 ∨ c = c7 ∨ c = c8 → I' c k = I c k) (h2 : ∀ k, k < 1799 → k < 4 ∨ 8 ≤ k → k < 72 ∨ 1769 ≤ k → A' k = A k) (hw : A 0 ≤ 12 ∧ A 1 ≤ 4) : Twn I' b c1 c2 c3 c4 c5 c6 c7 c8 A' := by
  obtain ⟨t1, t2, t3, t4, t5, t6, t7, t8, t9, t10, t11, t12, t13, t14, t15, t16⟩ := t
  have e1 : A' 1 = A 1 := h2 1 (by omega) (by omega) (by omega)
  refine ⟨?_, ?_, ?_, ?_, ?_, ?_, ?_, ?_, ?_, ?_, ?_, ?_, ?_, ?_, ?_, ?_⟩
  · intro h hh; rw [h1 _ _ (by simp), h2 _ (by omega) (by omega) (by omega)]; exact t1 h hh
  · intro h hh; rw [h1 _ _ (by simp), h2 _ (by omega) (by omega) (by omega)]; exact t2 h hh
  · intro h hh
    have e : bes A' h = bes A h := by
      unfold bes
      rw [h2 0 (by omega) (by omega) (by omega)]
      exact bsN_c _ (fun j hj => h2 _ (by omega) (by omega) (by omega))
    rw [h1 _ _ (by simp), e]; exact t3 h hh
  · intro h hh; rw [e1] at hh; rw [h1 _ _ (by simp), h2 _ (by omega) (by omega) (by omega)]; exact t4 h hh
  · intro h hh; rw [e1] at hh; rw [h1 _ _ (by simp), h2 _ (by omega) (by omega) (by omega)]; exact t5 h hh
  · intro h hh; rw [e1] at hh; rw [h1 _ _ (by simp), h2 _ (by omega) (by omega) (by omega)]; exact t6 h hh
  · intro h hh
    rw [e1] at hh
    have e : kpr A' h = kpr A h := kpN_c _ (fun j hj => h2 _ (by omega) (by omega) (by omega))
    rw [h1 _ _ (by simp), e]; exact t7 h hh
  · intro h hh; rw [h1 _ _ (by simp), h2 _ (by omega) (by omega) (by omega)]; exact t8 h hh
  · rw [h1 _ _ (by simp), h2 _ (by omega) (by omega) (by omega)]; exact t9
  · rw [h1 _ _ (by simp), h2 _ (by omega) (by omega) (by omega)]; exact t10
  · rw [h1 _ _ (by simp), h2 _ (by omega) (by omega) (by omega)]; exact t11
  · rw [h1 _ _ (by simp), h2 _ (by omega) (by omega) (by omega)]; exact t12
  · rw [h1 _ _ (by simp), h2 _ (by omega) (by omega) (by omega)]; exact t13
  · rw [h1 _ _ (by simp), h2 _ (by omega) (by omega) (by omega)]; exact t14
  · rw [h1 _ _ (by simp), h2 _ (by omega) (by omega) (by omega)]; exact t15
  · rw [h1 _ _ (by simp), h2 _ (by omega) (by omega) (by omega)]; exact t16
theorem Srow_c {I I' : Nat → Nat → Int32} {r r' R R' x x' : Nat} {A A' : Nat → Nat} (hx : A x ≤ 4) (e : ∀ k, k < 48 → I' r' (R' + k) = I r (R + k)) (eA : ∀ k, k < 55 → A' (x' + k) = A (x + k)) (t : Srow I r R A x) : Srow I' r' R' A' x' := by
  obtain ⟨t1, t2, t3, t4, t5, t6, t7, t8, t9⟩ := t
  have e0 : A' x' = A x := eA 0 (by omega)
  refine ⟨?_, ?_, ?_, ?_, ?_, ?_, ?_, ?_, ?_⟩
  · intro h hh; rw [e _ (by omega), Nat.add_assoc, eA _ (by omega), ← Nat.add_assoc]; exact t1 h hh
  · intro h hh; rw [e0] at hh; rw [Nat.add_assoc, e _ (by omega), Nat.add_assoc x', eA _ (by omega), ← Nat.add_assoc, ← Nat.add_assoc]; exact t2 h hh
  · rw [e _ (by omega), e0, t3]
    congr 1
    exact (pkN_c _ (fun r hr => kpN_c _ (fun h hh => by rw [Nat.add_assoc, eA _ (by omega), ← Nat.add_assoc]))).symm
  · rw [e _ (by omega), e0]; exact t4
  · rw [e _ (by omega), eA _ (by omega)]; exact t5
  · rw [e _ (by omega), eA _ (by omega)]; exact t6
  · rw [e _ (by omega), eA _ (by omega)]; exact t7
  · rw [e _ (by omega), eA _ (by omega)]; exact t8
  · intro h hh; rw [Nat.add_assoc, e _ (by omega), Nat.add_assoc x', eA _ (by omega), ← Nat.add_assoc, ← Nat.add_assoc]; exact t9 h hh
theorem Stw_c {I I' : Nat → Nat → Int32} {s r : Nat} {A A' : Nat → Nat} (t : Stw I s r A) (h1 : ∀ c k, c = s ∨ c = r → I' c k = I c k) (h4 : A' 4 = A 4) (h2 : ∀ k, 119 ≤ k → k < 1769 → A' k = A k) (hw : Wf A) : Stw I' s r A' := by
  obtain ⟨f, hf, e1, e2, t⟩ := t
  have hl : A 4 ≤ 30 := hw.1.2.2.2.2.1
  refine ⟨f, hf, by rw [h1 _ _ (by simp)]; exact e1, by rw [h1 _ _ (by simp), h4]; exact e2, ?_⟩
  intro j hj
  rw [h4] at hj
  exact Srow_c (Nat.le_trans (hw.2.2.2.2 j hj).1 hw.1.2.1) (fun k _ => h1 _ _ (Or.inr rfl)) (fun k hk => h2 _ (by omega) (by omega)) (t j hj)
theorem Nts_c {I I' : Nat → Nat → Int32} {b c1 c2 c3 c4 c5 c6 : Nat} {A A' : Nat → Nat} (t : Nts I b c1 c2 c3 c4 c5 c6 A) (h1 : ∀ c k, c = b ∨ c = c1 ∨ c = c2 ∨ c = c3 ∨ c = c4 ∨ c = c5 ∨ c = c6 → I' c k = I c k) (h2 : ∀ k, k = 5 ∨ k = 6 ∨ k = 7 ∨ (72 ≤ k ∧ k < 119) → A' k = A k) (hw : Wf1 A) : Nts I' b c1 c2 c3 c4 c5 c6 A' := by
  obtain ⟨t1, t2, t3, t4, t5, t6⟩ := t
  obtain ⟨w0, w1, w2, w3, w4, w5, w6, w7, -⟩ := hw
  have e5 : A' 5 = A 5 := h2 5 (by omega)
  have e6 : A' 6 = A 6 := h2 6 (by omega)
  have e7 : A' 7 = A 7 := h2 7 (by omega)
  refine ⟨?_, ?_, ?_, ?_, ?_, ?_⟩
  · rw [h1 _ _ (by simp), e5]; exact t1
  · rw [h1 _ _ (by simp), e6]; exact t2
  · rw [h1 _ _ (by simp), e7]; exact t3
  · intro j hj
    rw [e5] at hj
    rw [h1 _ _ (by simp), h1 _ _ (by simp), h2 _ (by omega), h2 _ (by omega)]
    exact t4 j hj
  · intro j hj
    rw [e6] at hj
    rw [h1 _ _ (by simp), h2 _ (by omega)]
    exact t5 j hj
  · intro j hj
    rw [e7] at hj
    rw [h1 _ _ (by simp), h1 _ _ (by simp), h1 _ _ (by simp), h2 _ (by omega), h2 _ (by omega), h2 _ (by omega)]
    exact t6 j hj
theorem Tpe_c {I I' : Nat → Nat → Int32} (t : Tpe I) (h1 : ∀ c k, c = 67 ∨ c = 68 ∨ c = 93 → I' c k = I c k) (h2 : ∀ k, k = 4 ∨ k = 5 ∨ k = 6 → I' 89 k = I 89 k) : Tpe I' := by
  obtain ⟨⟨n, hn, e1, e2, e3⟩, e4, e5⟩ := t
  refine ⟨⟨n, hn, by rw [h1 _ _ (by simp)]; exact e1, by rw [h2 _ (by simp)]; exact e2, ?_⟩, ?_, ?_⟩
  · intro k hk
    rw [h1 _ _ (by simp), h1 _ _ (by simp)]
    exact e3 k hk
  · rw [h1 _ _ (by simp), h2 _ (by simp)]; exact e4
  · rw [h1 _ _ (by simp), h2 _ (by simp)]; exact e5
theorem txI_c {I I' : Nat → Nat → Int32} (h : ∀ c k, (46 ≤ c ∧ c ≤ 66) ∨ c = 92 → I' c k = I c k) : txI I' = txI I := by
  funext c k
  unfold txI
  by_cases hc : (46 ≤ c ∧ c ≤ 66) ∨ c = 92
  · rw [if_pos hc, if_pos hc, h c k hc]
  · rw [if_neg hc, if_neg hc]
theorem AtM_c {I I' : Nat → Nat → Int32} {c : Nat} {A : Nat → Nat} (m : AtM I c A) (h : ∀ k, I' c k = I c k) : AtM I' c A := fun k hk => by rw [h k]; exact m k hk
theorem CI_c {I I' : Nat → Nat → Int32} {A B : Nat → Nat} (w : WW A B) (h : CI I A B) (e : ∀ c k, c ≤ 18 ∨ (28 ≤ c ∧ c ≤ 45) → I' c k = I c k) : CI I' A B := by
  obtain ⟨h1, h2, h3, h4, h5, h6⟩ := h
  obtain ⟨wA, wB, -⟩ := w
  exact ⟨Twn_c h1 (fun c k hc => e c k (by omega)) (fun _ _ _ _ => rfl) ⟨wA.1.1, wA.1.2.1⟩, Twn_c h2 (fun c k hc => e c k (by omega)) (fun _ _ _ _ => rfl) ⟨wB.1.1, wB.1.2.1⟩, Stw_c h3 (fun c k hc => e c k (by omega)) rfl (fun _ _ _ => rfl) wA, Stw_c h4 (fun c k hc => e c k (by omega)) rfl (fun _ _ _ => rfl) wB, Nts_c h5 (fun c k hc => e c k (by omega)) (fun _ _ => rfl) wA.1, Nts_c h6 (fun c k hc => e c k (by omega)) (fun _ _ => rfl) wB.1⟩
theorem MI_c {I I' : Nat → Nat → Int32} {A B : Nat → Nat} (h : MI I A B) (e : ∀ c k, c = 90 ∨ c = 91 → I' c k = I c k) (e2 : I' 89 23 = I 89 23) : MI I' A B := ⟨AtM_c h.1 (fun k => e 90 k (by omega)), AtM_c h.2.1 (fun k => e 91 k (by omega)), e2.trans h.2.2⟩
theorem Jt_pair {TX : (Nat → Nat → Int32) → Nat → Prop} {sc : Sc} {d mx my : Nat} {ex ey : Lo} (h : Jt TX sc d mx my ex ey) : PairI (Inv TX) sc d mx my ex ey := by
  rintro I J T ⟨A, B, hC, hM, hW, hT, hX⟩
  obtain ⟨v, A', B', w', l', h1, h2⟩ := h A B (txI I) hW hX
  obtain ⟨I1, f1, c1, q1⟩ := h1 I J T hC rfl
  have t1 : txI I1 = txI I := txI_c (fun c k hc => f1 c k (by omega))
  obtain ⟨I2, J2, ⟨f2, f3⟩, m2, q2⟩ := h2 I1 J T (MI_c hM (fun c k hc => f1 c k (by omega)) (f1 _ _ (by omega))) t1
  have t2 : txI I2 = txI I := (txI_c (fun c k hc => f2 c k (by omega))).trans t1
  rw [q1]
  refine ⟨v, rfl, I1, J, T, rfl, ?_⟩
  rw [q2]
  refine ⟨rfl, I2, J2, T, rfl, A', B', CI_c w' c1 (fun c k hc => f2 c k (by omega)), m2, w', ?_, ?_⟩
  · refine Tpe_c hT (fun c k hc => (f2 c k (by omega)).trans (f1 c k (by omega))) (fun k hk => (f3 k hk).trans (f1 _ _ (by omega)))
  · rw [t2]
    exact fun t ht => hX t (by omega)
/-- where nothing is changed -/
theorem jtR {sc : Sc} {d mx my : Nat} {ex ey : Lo} {A B : Nat → Nat} {M : Nat → Nat → Int32} (w : WW A B) (v : Int32) (h1 : ∀ I J T Q, CI I A B → Rn sc d mx 0 ex [] (K0, I, J, R1 T) Q = Q (some (.int v)) (K0, I, J, R1 T)) (h2 : ∀ I J T Q, MI I A B → Rn sc d my 0 ey [] (K0, I, J, R1 T) Q = Q (some (.int v)) (K0, I, J, R1 T)) : JtB sc d mx my ex ey A B M :=
  ⟨v, A, B, w, Nat.le_refl _, fun I J T hC _ => ⟨I, fun _ _ _ => rfl, hC, fun Q => h1 I J T Q hC⟩, fun I J T hM _ => ⟨I, J, ⟨fun _ _ _ => rfl, fun _ _ => rfl⟩, hM, fun Q => h2 I J T Q hM⟩⟩
theorem Jt_read {TX : (Nat → Nat → Int32) → Nat → Prop} {sc : Sc} {d mx my : Nat} {ex ey : Lo} (h : ∀ A B, WW A B → ∃ v : Int32, (∀ I J T Q, CI I A B → Rn sc d mx 0 ex [] (K0, I, J, R1 T) Q = Q (some (.int v)) (K0, I, J, R1 T)) ∧ (∀ I J T Q, MI I A B → Rn sc d my 0 ey [] (K0, I, J, R1 T) Q = Q (some (.int v)) (K0, I, J, R1 T))) : Jt TX sc d mx my ex ey := by
  intro A B M w _
  obtain ⟨v, h1, h2⟩ := h A B w
  exact jtR w v h1 h2
theorem JtP_f {TX : (Nat → Nat → Int32) → Nat → Prop} {P : Int32 → Prop} {sc : Sc} {d mx my : Nat} {ex ey : Lo} (h : JtP TX P sc d mx my ex ey) : Jt TX sc d mx my ex ey := by
  intro A B M w hX
  obtain ⟨v, A', B', -, h⟩ := h A B M w hX
  exact ⟨v, A', B', h⟩
theorem jtRP {P : Int32 → Prop} {sc : Sc} {d mx my : Nat} {ex ey : Lo} {A B : Nat → Nat} {M : Nat → Nat → Int32} (w : WW A B) (v : Int32) (hv : P v) (h1 : ∀ I J T Q, CI I A B → Rn sc d mx 0 ex [] (K0, I, J, R1 T) Q = Q (some (.int v)) (K0, I, J, R1 T)) (h2 : ∀ I J T Q, MI I A B → Rn sc d my 0 ey [] (K0, I, J, R1 T) Q = Q (some (.int v)) (K0, I, J, R1 T)) : JtBP P sc d mx my ex ey A B M :=
  ⟨v, A, B, hv, w, Nat.le_refl _, fun I J T hC _ => ⟨I, fun _ _ _ => rfl, hC, fun Q => h1 I J T Q hC⟩, fun I J T hM _ => ⟨I, J, ⟨fun _ _ _ => rfl, fun _ _ => rfl⟩, hM, fun Q => h2 I J T Q hM⟩⟩
