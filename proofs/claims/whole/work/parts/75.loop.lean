/-- what is wanted of all pairs of calls, at every place of the script -/
def Pairs (Inv : (Nat → Nat → Int32) → (Nat → Nat → Int64) → Option Nat → Prop) (sc : Sc) (d i : Nat) : Prop :=
  (PairI Inv sc d 108 177 [some (.ref 0), some (.int (sc.2 (i + 1))), some (.int (sc.2 (i + 2)))] [some (.ref 89), some (.int (sc.2 (i + 1))), some (.int (sc.2 (i + 2)))]) ∧
  (PairI Inv sc d 109 178 [some (.ref 0), some (.int (sc.2 (i + 1))), some (.int (sc.2 (i + 2))), none] [some (.ref 89), some (.int (sc.2 (i + 1))), some (.int (sc.2 (i + 2))), none]) ∧
  (PairI Inv sc d 110 179 [some (.ref 0), some (.int (sc.2 (i + 1))), some (.int (sc.2 (i + 2)))] [some (.ref 89), some (.int (sc.2 (i + 1))), some (.int (sc.2 (i + 2)))]) ∧
  (PairI Inv sc d 111 181 [some (.ref 0), some (.int (sc.2 (i + 1))), some (.int (sc.2 (i + 2))), some (.int (sc.2 (i + 3))), some (.int (sc.2 (i + 4))), some (.int (sc.2 (i + 5)))] [some (.ref 89), some (.int (sc.2 (i + 1))), some (.int (sc.2 (i + 2))), some (.int (sc.2 (i + 3))), some (.int (sc.2 (i + 4))), some (.int (sc.2 (i + 5)))]) ∧
  (PairI Inv sc d 112 182 [some (.ref 0), some (.int (sc.2 (i + 1)))] [some (.ref 89), some (.int (sc.2 (i + 1)))]) ∧
  (PairI Inv sc d 113 219 [some (.ref 0), none] [some (.ref 89)]) ∧
  (PairI Inv sc d 114 220 [some (.ref 0), some (.int (sc.2 (i + 1)))] [some (.ref 89), some (.int (sc.2 (i + 1)))]) ∧
  (PairI Inv sc d 115 221 [some (.ref 0), some (.int (sc.2 (i + 1)))] [some (.ref 89), some (.int (sc.2 (i + 1)))]) ∧
  (PairI Inv sc d 116 243 [some (.ref 0), some (.int (sc.2 (i + 1))), some (.int (sc.2 (i + 2)))] [some (.ref 89), some (.int (sc.2 (i + 1))), some (.int (sc.2 (i + 2)))]) ∧
  (PairI Inv sc d 117 244 [some (.ref 0), some (.int (sc.2 (i + 1))), some (.int (sc.2 (i + 2)))] [some (.ref 89), some (.int (sc.2 (i + 1))), some (.int (sc.2 (i + 2)))]) ∧
  (PairI Inv sc d 118 245 [some (.ref 0), some (.int (sc.2 (i + 1))), some (.int (sc.2 (i + 2)))] [some (.ref 89), some (.int (sc.2 (i + 1))), some (.int (sc.2 (i + 2)))]) ∧
  (PairI Inv sc d 119 247 [some (.ref 0), some (.int (sc.2 (i + 1))), none, none] [some (.ref 89), some (.int (sc.2 (i + 1)))]) ∧
  (PairI Inv sc d 120 249 [some (.ref 0), some (.int (sc.2 (i + 1))), none, none, none, none] [some (.ref 89), some (.int (sc.2 (i + 1))), none]) ∧
  (PairI Inv sc d 123 251 [some (.ref 0), some (.int (sc.2 (i + 1))), some (.int (sc.2 (i + 2))), none] [some (.ref 89), some (.int (sc.2 (i + 1))), some (.int (sc.2 (i + 2))), none, none]) ∧
  (PairI Inv sc d 124 242 [some (.ref 0)] [some (.ref 89), none, none]) ∧
  (PairI Inv sc d 125 252 [some (.ref 0), some (.int (sc.2 (i + 1))), some (.int (sc.2 (i + 2)))] [some (.ref 89), some (.int (sc.2 (i + 1))), some (.int (sc.2 (i + 2)))]) ∧
  (PairI Inv sc d 126 253 [some (.ref 0), some (.int (sc.2 (i + 1))), some (.int (sc.2 (i + 2)))] [some (.ref 89), some (.int (sc.2 (i + 1))), some (.int (sc.2 (i + 2)))]) ∧
  (PairI Inv sc d 127 254 [some (.ref 0), some (.int (sc.2 (i + 1))), some (.int (sc.2 (i + 2)))] [some (.ref 89), some (.int (sc.2 (i + 1))), some (.int (sc.2 (i + 2)))]) ∧
  (PairI Inv sc d 128 255 [some (.ref 0), some (.int (sc.2 (i + 1))), some (.int (sc.2 (i + 2)))] [some (.ref 89), some (.int (sc.2 (i + 1))), some (.int (sc.2 (i + 2)))]) ∧
  (PairI Inv sc d 129 256 [some (.ref 0), some (.int (sc.2 (i + 1)))] [some (.ref 89), some (.int (sc.2 (i + 1)))]) ∧
  (PairI Inv sc d 130 258 [some (.ref 0), some (.int (sc.2 (i + 1))), some (.int (sc.2 (i + 2)))] [some (.ref 89), some (.int (sc.2 (i + 1))), some (.int (sc.2 (i + 2)))]) ∧
  (PairI Inv sc d 131 263 [some (.ref 0), some (.int (sc.2 (i + 1))), some (.int (sc.2 (i + 2))), some (.int (sc.2 (i + 3))), none, none, none] [some (.ref 89), some (.int (sc.2 (i + 1))), some (.int (sc.2 (i + 2))), some (.int (sc.2 (i + 3))), none, none]) ∧
  (PairI Inv sc d 132 265 [some (.ref 0), some (.int (sc.2 (i + 1))), some (.int (sc.2 (i + 2)))] [some (.ref 89), some (.int (sc.2 (i + 1))), some (.int (sc.2 (i + 2)))]) ∧
  (PairI Inv sc d 133 266 [some (.ref 0), some (.int (sc.2 (i + 1))), some (.int (sc.2 (i + 2))), some (.int (sc.2 (i + 3)))] [some (.ref 89), some (.int (sc.2 (i + 1))), some (.int (sc.2 (i + 2))), some (.int (sc.2 (i + 3))), none, none, none]) ∧
  (PairI Inv sc d 134 268 [some (.ref 0), some (.int (sc.2 (i + 1)))] [some (.ref 89), some (.int (sc.2 (i + 1)))]) ∧
  (∀ z, z < 2 → PairI Inv sc d 135 270 [some (.ref 0), some (.int (nI z)), none, none] [some (.ref 89), some (.int (nI z)), none, none]) ∧
  (PairI Inv sc d 136 271 [some (.ref 0), none, none] [some (.ref 89), none, none]) ∧
  (PairI Inv sc d 137 272 [some (.ref 0), none, none, none] [some (.ref 89), none, none]) ∧
  (PairI Inv sc d 138 273 [some (.ref 0)] [some (.ref 89), none, none, none, none]) ∧
  (PairI Inv sc d 139 275 [some (.ref 0)] [some (.ref 89), none, none]) ∧
  (PairJ Inv sc d 140 280 [some (.ref 0), some (.int (sc.2 (i + 1)))] [some (.ref 89), some (.int (sc.2 (i + 1)))]) ∧
  (PairI Inv sc d 141 281 [some (.ref 0), some (.int (sc.2 (i + 1))), some (.int (sc.2 (i + 2)))] [some (.ref 89), some (.int (sc.2 (i + 1))), some (.int (sc.2 (i + 2)))]) ∧
  (PairI Inv sc d 142 283 [some (.ref 0), some (.int (sc.2 (i + 1)))] [some (.ref 89), some (.int (sc.2 (i + 1)))]) ∧
  (PairI Inv sc d 143 284 [some (.ref 0)] [some (.ref 89)]) ∧
  (∀ z, z < 2 → PairI Inv sc d 144 285 [some (.ref 0), some (.int (sc.2 (i + 1))), some (.int (sc.2 (i + 2))), some (.int (nI z)), none] [some (.ref 89), some (.int (sc.2 (i + 1))), some (.int (sc.2 (i + 2))), some (.int (nI z)), none, none]) ∧
  (∀ z, z < 2 → PairI Inv sc d 145 287 [some (.ref 0), some (.int (sc.2 (i + 1))), some (.int (nI z)), none] [some (.ref 89), some (.int (sc.2 (i + 1))), some (.int (nI z)), none, none]) ∧
  (∀ z, z < 2 → PairI Inv sc d 146 277 [some (.ref 0), some (.int (sc.2 (i + 1))), some (.int (sc.2 (i + 2))), some (.int (nI z)), none, none, none] [some (.ref 89), some (.int (sc.2 (i + 1))), some (.int (sc.2 (i + 2))), some (.int (nI z)), none, none, none]) ∧
  (PairI Inv sc d 147 288 [some (.ref 0), some (.int (sc.2 (i + 1))), some (.int (sc.2 (i + 2)))] [some (.ref 89), some (.int (sc.2 (i + 1))), some (.int (sc.2 (i + 2)))]) ∧
  (PairI Inv sc d 148 294 [some (.ref 0), some (.int (sc.2 (i + 1)))] [some (.ref 89), some (.int (sc.2 (i + 1)))]) ∧
  (PairI Inv sc d 149 291 [some (.ref 0), some (.int (sc.2 (i + 1)))] [some (.ref 89), some (.int (sc.2 (i + 1)))]) ∧
  (PairI Inv sc d 150 296 [some (.ref 0), some (.int (sc.2 (i + 1)))] [some (.ref 89), some (.int (sc.2 (i + 1))), none, none, none, none, none]) ∧
  (PairI Inv sc d 151 297 [some (.ref 0), some (.int (sc.2 (i + 1)))] [some (.ref 89), some (.int (sc.2 (i + 1)))]) ∧
  (PairI Inv sc d 152 300 [some (.ref 0), some (.int (sc.2 (i + 1))), none] [some (.ref 89), some (.int (sc.2 (i + 1))), none]) ∧
  (PairI Inv sc d 153 301 [some (.ref 0), some (.int (sc.2 (i + 1))), some (.int (sc.2 (i + 2))), some (.int (sc.2 (i + 3)))] [some (.ref 89), some (.int (sc.2 (i + 1))), some (.int (sc.2 (i + 2))), some (.int (sc.2 (i + 3))), none]) ∧
  (PairI Inv sc d 154 302 [some (.ref 0), none, none] [some (.ref 89), none, none, none, none]) ∧
  (PairI Inv sc d 156 261 [some (.ref 0), none, none, none, none] [some (.ref 89), none, none]) ∧
  (PairI Inv sc d 158 262 [some (.ref 0), none, none, none] [some (.ref 89), none, none]) ∧
  (PairI Inv sc d 159 259 [some (.ref 0), some (.int (sc.2 (i + 1))), none, none] [some (.ref 89), some (.int (sc.2 (i + 1))), none, none]) ∧
  (PairI Inv sc d 160 303 [some (.ref 0)] [some (.ref 89)]) ∧
  (PairI Inv sc d 161 304 [some (.ref 0)] [some (.ref 89)]) ∧
  (PairI Inv sc d 162 305 [some (.ref 0), some (.int (sc.2 (i + 1)))] [some (.ref 89), some (.int (sc.2 (i + 1)))])
theorem ofNat_nI (n : Nat) : Int32.ofNat n = nI n := rfl
set_option maxHeartbeats 4000000 in
theorem law_loop {sc : Sc} {d : Nat} {Inv : (Nat → Nat → Int32) → (Nat → Nat → Int64) → Option Nat → Prop} (hn : sc.1 < 2 ^ 30) (H : ∀ i, i + 6 ≤ sc.1 → Pairs Inv sc d i) : ∀ (m i : Nat) (I : Nat → Nat → Int32) (J : Nat → Nat → Int64) (T : Option Nat), sc.1 < m + i → i ≤ sc.1 + 6 → Inv I J T → Rn sc (d + 1) 319 10 [some (.ref 1000), some (.ref 0), some (.ref 89), some (.int (nI i))] [] (K0, I, J, R1 T) (fun r s' => r = some (.int 1) ∧ s'.1 = K0) := by
  intro m
  induction m with
  | zero =>
    intro i I J T hm h6 hI
    simp only [x319_10, x319_11, x319_12, x319_13, x319_14, x319_15, ofNat_nI]
    have hlt : nI sc.1 - nI 6 < nI i := by
      rw [Int32.lt_iff_toInt_lt, pk_sub_toInt (by omega) (by omega), nI_toInt (by omega)]
      omega
    rw [if_pos hlt]
    simp (disch := decide) only [x319_1104, x319_1105]
    exact ⟨rfl, trivial⟩
  | succ m ih =>
    intro i I J T hm h6 hI
    simp only [x319_10, x319_11, x319_12, x319_13, x319_14, x319_15, ofNat_nI]
    by_cases hlt : nI sc.1 - nI 6 < nI i
    · rw [if_pos hlt]
      simp (disch := decide) only [x319_1104, x319_1105]
      exact ⟨rfl, trivial⟩
    · rw [if_neg hlt]
      have hi : i + 6 ≤ sc.1 := by
        rw [Int32.lt_iff_toInt_lt, pk_sub_toInt (by omega) (by omega), nI_toInt (by omega)] at hlt
        omega
      have hn' : sc.1 < 2 ^ 31 := by omega
      have hc : ∀ I2 J2 T2, Inv I2 J2 T2 → Rn sc (d + 1) 319 1102 [some (.ref 1000), some (.ref 0), some (.ref 89), some (.int (nI i))] [] (K0, I2, J2, R1 T2) (fun r s' => r = some (.int 1) ∧ s'.1 = K0) := fun I2 J2 T2 h => by
        rw [x319_1102, x319_1103, nI_add]
        exact ih (i + 6) I2 J2 T2 (by omega) (by omega) h
      obtain ⟨p0, p1, p2, p3, p4, p5, p6, p7, p8, p9, p10, p11, p12, p13, p14, p15, p16, p17, p18, p19, p20, p21, p22, p23, p24, p25, p26, p27, p28, p29, p30, p31, p32, p33, p34, p35, p36, p37, p38, p39, p40, p41, p42, p43, p44, p45, p46, p47, p48, p49, p50⟩ := H i hi
      simp (disch := first | assumption | omega) only [x319_16, x319_17, x319_18, x319_19, x319_20]
      obtain ⟨j, hj, ej⟩ := pk_andE (sc.2 i) (m := nI 63) 6 (by decide)
      rw [ej]
      by_cases h51 : j < 51
      · rcases (show j = 0 ∨ j = 1 ∨ j = 2 ∨ j = 3 ∨ j = 4 ∨ j = 5 ∨ j = 6 ∨ j = 7 ∨ j = 8 ∨ j = 9 ∨ j = 10 ∨ j = 11 ∨ j = 12 ∨ j = 13 ∨ j = 14 ∨ j = 15 ∨ j = 16 ∨ j = 17 ∨ j = 18 ∨ j = 19 ∨ j = 20 ∨ j = 21 ∨ j = 22 ∨ j = 23 ∨ j = 24 ∨ j = 25 ∨ j = 26 ∨ j = 27 ∨ j = 28 ∨ j = 29 ∨ j = 30 ∨ j = 31 ∨ j = 32 ∨ j = 33 ∨ j = 34 ∨ j = 35 ∨ j = 36 ∨ j = 37 ∨ j = 38 ∨ j = 39 ∨ j = 40 ∨ j = 41 ∨ j = 42 ∨ j = 43 ∨ j = 44 ∨ j = 45 ∨ j = 46 ∨ j = 47 ∨ j = 48 ∨ j = 49 ∨ j = 50 by omega) with rfl | rfl | rfl | rfl | rfl | rfl | rfl | rfl | rfl | rfl | rfl | rfl | rfl | rfl | rfl | rfl | rfl | rfl | rfl | rfl | rfl | rfl | rfl | rfl | rfl | rfl | rfl | rfl | rfl | rfl | rfl | rfl | rfl | rfl | rfl | rfl | rfl | rfl | rfl | rfl | rfl | rfl | rfl | rfl | rfl | rfl | rfl | rfl | rfl | rfl | rfl
        · rw [x319_21_0]
          exact op_0 hn' hi p0 hI hc
        · rw [x319_21_1]
          exact op_1 hn' hi p1 hI hc
        · rw [x319_21_2]
          exact op_2 hn' hi p2 hI hc
        · rw [x319_21_3]
          exact op_3 hn' hi p3 hI hc
        · rw [x319_21_4]
          exact op_4 hn' hi p4 hI hc
        · rw [x319_21_5]
          exact op_5 hn' hi p5 hI hc
        · rw [x319_21_6]
          exact op_6 hn' hi p6 hI hc
        · rw [x319_21_7]
          exact op_7 hn' hi p7 hI hc
        · rw [x319_21_8]
          exact op_8 hn' hi p8 hI hc
        · rw [x319_21_9]
          exact op_9 hn' hi p9 hI hc
        · rw [x319_21_10]
          exact op_10 hn' hi p10 hI hc
        · rw [x319_21_11]
          exact op_11 hn' hi p11 hI hc
        · rw [x319_21_12]
          exact op_12 hn' hi p12 hI hc
        · rw [x319_21_13]
          exact op_13 hn' hi p13 hI hc
        · rw [x319_21_14]
          exact op_14 hn' hi p14 hI hc
        · rw [x319_21_15]
          exact op_15 hn' hi p15 hI hc
        · rw [x319_21_16]
          exact op_16 hn' hi p16 hI hc
        · rw [x319_21_17]
          exact op_17 hn' hi p17 hI hc
        · rw [x319_21_18]
          exact op_18 hn' hi p18 hI hc
        · rw [x319_21_19]
          exact op_19 hn' hi p19 hI hc
        · rw [x319_21_20]
          exact op_20 hn' hi p20 hI hc
        · rw [x319_21_21]
          exact op_21 hn' hi p21 hI hc
        · rw [x319_21_22]
          exact op_22 hn' hi p22 hI hc
        · rw [x319_21_23]
          exact op_23 hn' hi p23 hI hc
        · rw [x319_21_24]
          exact op_24 hn' hi p24 hI hc
        · rw [x319_21_25]
          exact op_25 hn' hi p25 hI hc
        · rw [x319_21_26]
          exact op_26 hn' hi p26 hI hc
        · rw [x319_21_27]
          exact op_27 hn' hi p27 hI hc
        · rw [x319_21_28]
          exact op_28 hn' hi p28 hI hc
        · rw [x319_21_29]
          exact op_29 hn' hi p29 hI hc
        · rw [x319_21_30]
          exact op_30 hn' hi p30 hI hc
        · rw [x319_21_31]
          exact op_31 hn' hi p31 hI hc
        · rw [x319_21_32]
          exact op_32 hn' hi p32 hI hc
        · rw [x319_21_33]
          exact op_33 hn' hi p33 hI hc
        · rw [x319_21_34]
          exact op_34 hn' hi p34 hI hc
        · rw [x319_21_35]
          exact op_35 hn' hi p35 hI hc
        · rw [x319_21_36]
          exact op_36 hn' hi p36 hI hc
        · rw [x319_21_37]
          exact op_37 hn' hi p37 hI hc
        · rw [x319_21_38]
          exact op_38 hn' hi p38 hI hc
        · rw [x319_21_39]
          exact op_39 hn' hi p39 hI hc
        · rw [x319_21_40]
          exact op_40 hn' hi p40 hI hc
        · rw [x319_21_41]
          exact op_41 hn' hi p41 hI hc
        · rw [x319_21_42]
          exact op_42 hn' hi p42 hI hc
        · rw [x319_21_43]
          exact op_43 hn' hi p43 hI hc
        · rw [x319_21_44]
          exact op_44 hn' hi p44 hI hc
        · rw [x319_21_45]
          exact op_45 hn' hi p45 hI hc
        · rw [x319_21_46]
          exact op_46 hn' hi p46 hI hc
        · rw [x319_21_47]
          exact op_47 hn' hi p47 hI hc
        · rw [x319_21_48]
          exact op_48 hn' hi p48 hI hc
        · rw [x319_21_49]
          exact op_49 hn' hi p49 hI hc
        · rw [x319_21_50]
          exact op_50 hn' hi p50 hI hc
      · rw [x319_21_d (Or.inr (by rw [nI_toInt (by omega)]; omega))]
        exact hc I J T hI
