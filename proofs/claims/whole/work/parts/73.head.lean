def I00 : Nat → Nat → Int32 := fun _ _ => 0
def J00 : Nat → Nat → Int64 := fun _ _ => 0
def R00 : Nat → Nat → Option Nat := fun _ _ => none
-- the memory when all objects are made, but for the image of the reference
set_option maxRecDepth 100000 in
def I0a : Nat → Nat → Int32 := (uI (uI (uI (uI (uI (uI (uI (uI (uI (uI (zI (zI (zI (zI (zI (zI (zI (uI (zI (zI (zI (zI (uI (uI (zI (zI (zI (zI (zI (zI (zI (zI (zI (zI (zI (zI (zI (zI (zI (zI (zI (zI (zI (zI (zI (zI (zI (zI (zI (uI (uI (zI (zI (zI (zI (zI (zI (zI (zI (zI (zI (zI (zI (zI (zI (zI (zI (zI (zI (zI (zI (zI (zI (zI (zI (zI (zI (zI (zI (zI (zI (zI (zI (zI (zI (zI (zI (zI (zI (zI (zI (zI (uI (uI (uI (uI (uI (uI (uI (uI (uI (uI (zI (zI (zI (zI (zI (zI (zI (zI (zI (uI (uI (uI (uI (uI (uI (uI (uI (uI (uI (zI (zI (zI (zI (zI (zI (zI (zI (zI (uI (uI (uI (uI (uI (uI (uI (uI (uI (uI (zI (zI (zI (zI (zI (zI (zI (zI (zI (zI I00 0) 1) 2) 3) 4) 5) 6) 7) 8) 9) 2 0 (nI 2)) 2 1 (nI 2)) 2 2 (nI 2)) 2 3 (nI 2)) 2 4 (nI 2)) 2 5 (nI 2)) 2 6 (nI 2)) 2 7 (nI 2)) 1 12 (nI 379)) 1 15 (-1)) 10) 11) 12) 13) 14) 15) 16) 17) 18) 11 0 (nI 2)) 11 1 (nI 2)) 11 2 (nI 2)) 11 3 (nI 2)) 11 4 (nI 2)) 11 5 (nI 2)) 11 6 (nI 2)) 11 7 (nI 2)) 10 12 (nI 379)) 10 15 (-1)) 19) 20) 21) 22) 23) 24) 25) 26) 27) 20 0 (nI 2)) 20 1 (nI 2)) 20 2 (nI 2)) 20 3 (nI 2)) 20 4 (nI 2)) 20 5 (nI 2)) 20 6 (nI 2)) 20 7 (nI 2)) 19 12 (nI 379)) 19 15 (-1)) 28) 29) 30) 31) 32) 33) 34) 35) 36) 37) 38) 39) 40) 41) 42) 43) 44) 45) 46) 47) 48) 49) 50) 51) 52) 53) 54) 55) 56) 57) 58) 59) 60) 61) 62) 63) 64) 65) 66) 67) 68) 67 2 (-1)) 67 3 (-1)) 69) 70) 71) 72) 73) 74) 75) 76) 77) 78) 79) 80) 81) 82) 83) 84) 85) 86) 87) 88) 89) 90) 91) 92) 93) 89 5 (-1)) 89 6 (-1)) 94) 95) 96) 97) 89 23 (nI 1)) 98) 99) 100) 101) 102) 103) 104) 90 9 (nI 379)) 90 3 (-1)) 90 32 (nI 2)) 90 33 (nI 2)) 90 34 (nI 2)) 90 35 (nI 2)) 90 36 (nI 2)) 90 37 (nI 2)) 90 38 (nI 2)) 90 39 (nI 2))
set_option maxRecDepth 100000 in
def J0a : Nat → Nat → Int64 := (zJ (zJ (zJ (zJ (zJ (zJ (zJ (zJ (zJ (zJ (zJ (zJ (zJ (zJ (zJ (zJ (zJ (zJ (zJ (zJ (zJ (zJ (zJ (zJ (zJ (zJ (zJ (zJ (zJ (zJ (zJ (zJ (zJ (zJ (zJ (zJ (zJ (zJ (zJ (zJ (zJ (zJ (zJ (zJ (zJ (zJ (zJ (zJ (zJ (zJ (zJ (zJ (zJ (zJ (zJ (zJ (zJ (zJ (zJ (zJ (zJ (zJ (zJ (zJ (zJ (zJ (zJ (zJ (zJ (zJ (zJ (zJ (zJ (zJ (zJ (zJ (zJ (zJ (zJ (zJ (zJ (zJ (zJ (zJ (zJ (zJ (zJ (zJ (zJ (zJ (zJ (zJ (zJ (zJ (zJ (zJ (zJ (zJ (zJ (zJ (zJ (zJ (zJ (zJ (zJ J00 0) 1) 2) 3) 4) 5) 6) 7) 8) 9) 10) 11) 12) 13) 14) 15) 16) 17) 18) 19) 20) 21) 22) 23) 24) 25) 26) 27) 28) 29) 30) 31) 32) 33) 34) 35) 36) 37) 38) 39) 40) 41) 42) 43) 44) 45) 46) 47) 48) 49) 50) 51) 52) 53) 54) 55) 56) 57) 58) 59) 60) 61) 62) 63) 64) 65) 66) 67) 68) 69) 70) 71) 72) 73) 74) 75) 76) 77) 78) 79) 80) 81) 82) 83) 84) 85) 86) 87) 88) 89) 90) 91) 92) 93) 94) 95) 96) 97) 98) 99) 100) 101) 102) 103) 104)
set_option maxRecDepth 100000 in
def R0a : Nat → Nat → Option Nat := (uR (zR (uR (zR (uR (zR (uR (zR (uR (zR (uR (zR (uR (zR (uR (zR (uR (zR (uR (zR (uR (zR (uR (zR (uR (zR (uR (zR (uR (zR (zR (uR (uR (uR (uR (zR (uR (zR (uR (zR (uR (zR (zR (uR (uR (uR (uR (zR (uR (zR (uR (zR (zR (uR (uR (uR (zR (uR (zR (uR (zR (uR (zR (uR (zR (uR (zR (uR (zR (zR (uR (uR (zR (uR (uR (zR (zR (uR (uR (zR (zR (uR (uR (zR (uR (zR (uR (zR (uR (zR (zR (uR (uR (zR (uR (zR (uR (zR (uR (zR (zR (uR (uR (zR (uR (zR (uR (zR (uR (zR (zR (uR (uR (zR (uR (zR (uR (zR (uR (zR (zR (uR (zR (uR (uR (zR (uR (zR (uR (zR (uR (zR (uR (zR (uR (zR (zR (uR (uR (zR (uR (zR (uR (zR (uR (zR (uR (zR (uR (zR (zR (uR (uR (zR (zR (uR (uR (zR (zR (uR (uR (zR (uR (zR (uR (zR (uR (zR (uR (zR (uR (zR (uR (zR (uR (zR (zR (uR (uR (zR (uR (zR (uR (zR (uR (zR (uR (zR (uR (zR (uR (zR (uR (zR (zR (uR (uR (zR (uR (zR (uR (zR (uR (zR (uR (zR (uR (zR (uR (zR (uR (zR (zR (zR R00 0) 1) 2) 1 0 (some 2)) 3) 1 1 (some 3)) 4) 1 2 (some 4)) 5) 1 3 (some 5)) 6) 1 4 (some 6)) 7) 1 5 (some 7)) 8) 1 6 (some 8)) 9) 1 7 (some 9)) 0 0 (some 1)) 10) 11) 10 0 (some 11)) 12) 10 1 (some 12)) 13) 10 2 (some 13)) 14) 10 3 (some 14)) 15) 10 4 (some 15)) 16) 10 5 (some 16)) 17) 10 6 (some 17)) 18) 10 7 (some 18)) 0 1 (some 10)) 19) 20) 19 0 (some 20)) 21) 19 1 (some 21)) 22) 19 2 (some 22)) 23) 19 3 (some 23)) 24) 19 4 (some 24)) 25) 19 5 (some 25)) 26) 19 6 (some 26)) 27) 19 7 (some 27)) 0 2 (some 19)) 28) 29) 28 0 (some 29)) 0 3 (some 28)) 30) 31) 30 0 (some 31)) 0 4 (some 30)) 32) 33) 32 0 (some 33)) 34) 32 1 (some 34)) 35) 32 3 (some 35)) 36) 32 5 (some 36)) 37) 32 6 (some 37)) 38) 32 7 (some 38)) 0 5 (some 32)) 39) 40) 39 0 (some 40)) 41) 39 1 (some 41)) 42) 39 3 (some 42)) 43) 39 5 (some 43)) 44) 39 6 (some 44)) 45) 39 7 (some 45)) 0 6 (some 39)) 46) 0 7 (some 46)) 47) 48) 47 0 (some 48)) 49) 47 2 (some 49)) 50) 47 4 (some 50)) 51) 47 5 (some 51)) 46 0 (some 47)) 52) 53) 52 0 (some 53)) 54) 52 2 (some 54)) 55) 52 4 (some 55)) 56) 52 5 (some 56)) 46 1 (some 52)) 57) 58) 57 0 (some 58)) 59) 57 2 (some 59)) 60) 57 4 (some 60)) 61) 57 5 (some 61)) 46 2 (some 57)) 62) 63) 62 0 (some 63)) 64) 62 2 (some 64)) 65) 62 4 (some 65)) 66) 62 5 (some 66)) 46 3 (some 62)) 67) 68) 67 0 (some 68)) 0 8 (some 67)) 69) 70) 69 0 (some 70)) 0 9 (some 69)) 71) 71 0 (some 69)) 0 10 (some 71)) 72) 73) 72 1 (some 73)) 74) 72 2 (some 74)) 75) 72 3 (some 75)) 76) 72 4 (some 76)) 77) 72 5 (some 77)) 78) 72 7 (some 78)) 79) 72 8 (some 79)) 72 0 (some 1)) 0 11 (some 72)) 80) 81) 80 2 (some 81)) 82) 80 3 (some 82)) 83) 80 4 (some 83)) 80 0 (some 72)) 80 1 (some 32)) 0 12 (some 80)) 84) 85) 84 2 (some 85)) 86) 84 3 (some 86)) 87) 84 4 (some 87)) 88) 84 6 (some 88)) 84 0 (some 1)) 84 1 (some 32)) 0 13 (some 84)) 89) 90) 89 0 (some 90)) 91) 89 1 (some 91)) 92) 89 2 (some 92)) 93) 89 3 (some 93)) 94) 89 15 (some 94)) 95) 89 20 (some 95)) 96) 89 21 (some 96)) 97) 89 22 (some 97)) 98) 89 25 (some 98)) 99) 89 26 (some 99)) 100) 89 27 (some 100)) 101) 89 28 (some 101)) 102) 89 29 (some 102)) 103) 89 32 (some 103)) 104) 89 33 (some 104))
set_option maxHeartbeats 4000000 in
set_option maxRecDepth 100000 in
theorem ct_head {sc : Sc} {d : Nat} {Q : Option Value → Mm → Prop} : Rn sc (d + 2) 319 0 [some (.ref 1000), none, none, none] [] mm0 Q = Rn sc (d + 1) 167 99 [some (.ref 89), some (.int (nI 8))] [.ref 91, .ref 90] (K0.take 105, I0a, J0a, R0a) (fun vv mm => Rn sc (d + 2) 319 7 [some (.ref 1000), some (.ref 0), none, none] (vv.toList ++ [.ref 89]) mm Q) := by
  show Rn sc (d + 1 + 1) 319 0 [some (.ref 1000), none, none, none] [] (K0.take 0, I00, J00, R00) Q = _
  simp (maxSteps := 300000) (disch := decide) only [↓reduceIte, y319_0, y319_1, y319_2, y319_3, y319_4, y319_5, y319_6, Nat.reduceAdd, Option.toList, List.nil_append, List.cons_append, c2L, Bool.false_eq_true, ct_107_0, cm_0, cm_1, cm_2, cm_3, cm_4]
  rfl
theorem nthO_none {α : Type} : ∀ (l : List α) (i : Nat), l.length ≤ i → nthO l i = none
  | [], _, _ => rfl
  | _ :: t, 0, h => by simp at h
  | _ :: t, i + 1, h => by
    show nthO t i = none
    exact nthO_none t i (by simpa using h)
def PzR (R : Nat → Nat → Option Nat) : Prop := ∀ c k, 105 ≤ c ∨ 40 ≤ k → R c k = none
theorem PzR_0 : PzR R00 := fun _ _ _ => rfl
theorem PzR_z {R : Nat → Nat → Option Nat} {n : Nat} (h : PzR R) : PzR (zR R n) := by
  intro c k hk
  unfold zR
  split
  · rfl
  · exact h c k hk
theorem PzR_u {R : Nat → Nat → Option Nat} {a b : Nat} {v : Option Nat} (ha : a < 105) (hb : b < 40) (h : PzR R) : PzR (uR R a b v) := by
  intro c k hk
  unfold uR
  rw [if_neg (by omega)]
  exact h c k hk
set_option maxRecDepth 100000 in
theorem PzR_a : PzR R0a := by
  unfold R0a
  repeat (first | exact PzR_0 | apply PzR_z | refine PzR_u (by decide) (by decide) ?_)
theorem R0L_len : ∀ c, c < 105 → ∀ l, nthO R0L c = some l → l.length ≤ 40 := by
  have h : ∀ c, c < 105 → (match nthO R0L c with | some l => decide (l.length ≤ 40) | none => true) = true := by decide +kernel
  intro c hc l hl
  have := h c hc
  rw [hl] at this
  simpa using this
theorem PzR_1 : PzR (R1 none) := by
  intro c k hk
  unfold R1
  split
  · rfl
  · by_cases hc : c < 105
    · cases hl : nthO R0L c with
      | none => rfl
      | some l =>
        have h1 := R0L_len c hc l hl
        simp only [nthO_none l k (by omega)]
    · rw [nthO_none R0L c (by have : R0L.length = 105 := by decide +kernel
                              omega)]
theorem R0a_eq : R0a = R1 none := by
  funext c k
  by_cases h : 105 ≤ c ∨ 40 ≤ k
  · rw [PzR_a c k h, PzR_1 c k h]
  · have h2 : ∀ c, c < 105 → ∀ k, k < 40 → R0a c k = R1 none c k := by decide +kernel
    exact h2 c (by omega) k (by omega)
