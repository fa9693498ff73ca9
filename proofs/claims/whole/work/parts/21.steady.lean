/-! the steady memory, and what single instructions do there -/
def K0 : List (Nat × Nat) := [(0, 10), (0, 9), (1, 8), (1, 8), (1, 8), (1, 4), (1, 4), (1, 4), (1, 4), (1, 30), (0, 9), (1, 8), (1, 8), (1, 8), (1, 4), (1, 4), (1, 4), (1, 4), (1, 30), (0, 9), (1, 8), (1, 8), (1, 8), (1, 4), (1, 4), (1, 4), (1, 4), (1, 30), (0, 6), (1, 1440), (0, 6), (1, 1440), (0, 4), (1, 8), (1, 8), (1, 7), (1, 8), (1, 8), (1, 8), (0, 4), (1, 8), (1, 8), (1, 7), (1, 8), (1, 8), (1, 8), (4, 4), (0, 8), (1, 300), (1, 24), (1, 2), (1, 2), (0, 8), (1, 300), (1, 24), (1, 2), (1, 2), (0, 8), (1, 300), (1, 24), (1, 2), (1, 2), (0, 8), (1, 300), (1, 24), (1, 2), (1, 2), (0, 5), (1, 300), (0, 2), (1, 64), (0, 0), (0, 7), (1, 64), (1, 256), (1, 256), (1, 49), (1, 8), (1, 8), (1, 8), (0, 1), (1, 8), (1, 8), (1, 8), (0, 3), (1, 8), (1, 128), (1, 128), (1, 7), (0, 11), (1, 1799), (1, 1799), (1, 2724), (1, 300), (1, 160), (1, 9), (2, 330), (3, 330), (1, 32), (1, 8), (1, 8), (1, 8), (1, 8), (1, 8), (1, 8)]
def R0L : List (List (Option Nat)) := [[some 1, some 10, some 19, some 28, some 30, some 32, some 39, some 46, some 67, some 69, some 71, some 72, some 80, some 84], [some 2, some 3, some 4, some 5, some 6, some 7, some 8, some 9, none, none, none, none, none, none, none, none], [], [], [], [], [], [], [], [], [some 11, some 12, some 13, some 14, some 15, some 16, some 17, some 18, none, none, none, none, none, none, none, none], [], [], [], [], [], [], [], [], [some 20, some 21, some 22, some 23, some 24, some 25, some 26, some 27, none, none, none, none, none, none, none, none], [], [], [], [], [], [], [], [], [some 29, none, none], [], [some 31, none, none], [], [some 33, some 34, none, some 35, none, some 36, some 37, some 38, none], [], [], [], [], [], [], [some 40, some 41, none, some 42, none, some 43, some 44, some 45, none], [], [], [], [], [], [], [some 47, some 52, some 57, some 62], [some 48, none, some 49, none, some 50, some 51], [], [], [], [], [some 53, none, some 54, none, some 55, some 56], [], [], [], [], [some 58, none, some 59, none, some 60, some 61], [], [], [], [], [some 63, none, some 64, none, some 65, some 66], [], [], [], [], [some 68, none, none, none, none, none, none, none, none, none], [], [some 70, none], [], [some 69], [some 1, some 73, some 74, some 75, some 76, some 77, none, some 78, some 79], [], [], [], [], [], [], [], [some 72, some 32, some 81, some 82, some 83], [], [], [], [some 1, some 32, some 85, some 86, some 87, none, some 88], [], [], [], [], [some 90, some 91, some 92, some 93, none, none, none, none, none, none, none, none, none, none, none, some 94, none, none, none, none, some 95, some 96, some 97, none, none, some 98, some 99, some 100, some 101, some 102, none, none, some 103, some 104], [], [], [], [], [], [], [], [], [], [], [], [], [], [], []]
def R1 (T : Option Nat) : Nat → Nat → Option Nat := fun c k => if c = 67 ∧ k = 9 then T else match nthO R0L c with
  | some l => (match nthO l k with
    | some o => o
    | none => none)
  | none => none
section Steady
variable {sc : Sc} {d mi i : Nat} {ls : Lo} {st r : List Value} {Q : Option Value → Mm → Prop} {e : Ea} {K : List (Nat × Nat)} {I : Nat → Nat → Int32} {J : Nat → Nat → Int64} {R : Nat → Nat → Option Nat}
theorem Rn_pushI {s : Mm} {w v : Int32} (ha : at_ mi i = some e) (h0 : e.1 = 0) (hs : st1 sc e i ls st s = some (i + 1, ls, .int w :: st, s)) (hv : w = v) : Rn sc d mi i ls st s Q = Rn sc d mi (i + 1) ls (.int v :: st) s Q := by
  subst hv
  exact Rn_step ha h0 hs
theorem Rn_pushJ {s : Mm} {w v : Int64} (ha : at_ mi i = some e) (h0 : e.1 = 0) (hs : st1 sc e i ls st s = some (i + 1, ls, .long w :: st, s)) (hv : w = v) : Rn sc d mi i ls st s Q = Rn sc d mi (i + 1) ls (.long v :: st) s Q := by
  subst hv
  exact Rn_step ha h0 hs
theorem Rn_inc {s : Mm} {w : Int32} {ls' : Lo} (k : Nat) (x v : Int32) (ha : at_ mi i = some e) (h0 : e.1 = 0) (hs : st1 sc e i ls st s = some (i + 1, stL ls k (.int (x + w)), st, s)) (hv : w = v) (hl : stL ls k (.int (x + v)) = ls' := by rfl) : Rn sc d mi i ls st s Q = Rn sc d mi (i + 1) ls' st s Q := by
  subst hv
  rw [Rn_step ha h0 hs, ← hl]
theorem gF_0 {c k ci p : Nat} {t : List Nat} (hc : c < 1000) (hk : kdM (K, I, J, R) c = some (0, ci)) : gF i ls (.ref c :: r) (K, I, J, R) (ci :: k :: 0 :: p :: t) = some (i + 1, ls, .int (I c k) :: r, (K, I, J, R)) := by
  simp only [gF, if_pos hc, if_pos hk]
  rfl
theorem gF_1 {c k ci p : Nat} {t : List Nat} (hc : c < 1000) (hk : kdM (K, I, J, R) c = some (0, ci)) : gF i ls (.ref c :: r) (K, I, J, R) (ci :: k :: 1 :: p :: t) = some (i + 1, ls, .long (J c k) :: r, (K, I, J, R)) := by
  simp only [gF, if_pos hc, if_pos hk]
  rfl
theorem gF_2 {c k ci p : Nat} {t : List Nat} (hc : c < 1000) (hk : kdM (K, I, J, R) c = some (0, ci)) : gF i ls (.ref c :: r) (K, I, J, R) (ci :: k :: 2 :: p :: t) = some (i + 1, ls, valR (R c k) :: r, (K, I, J, R)) := by
  simp only [gF, if_pos hc, if_pos hk]
  rfl
theorem pF_0 {c k ci p f : Nat} {x : Int32} (hc : c < 1000) (hk : kdM (K, I, J, R) c = some (0, ci)) : pF i ls (.int x :: .ref c :: r) (K, I, J, R) [ci, k, 0, p, f] = some (i + 1, ls, r, (K, uI I c k x, J, R)) := by
  simp only [pF]
  rw [if_pos ⟨hc, hk⟩]
  rfl
theorem iald_ok {c n q : Nat} (hc : c < 1000) (hk : kdM (K, I, J, R) c = some (1, n)) (hq : q < n) (hn : n < 2 ^ 31) : alI i ls (.int (nI q) :: .ref c :: r) (K, I, J, R) sc = some (i + 1, ls, .int (I c q) :: r, (K, I, J, R)) := by
  simp only [alI, arI, if_pos hc, hk]
  rw [if_neg (vp_nI hq hn), nI_clamp (by omega)]
theorem scld_ok {s : Mm} {q : Nat} (hq : q < sc.1) (hn : sc.1 < 2 ^ 31) : alI i ls (.int (nI q) :: .ref 1000 :: r) s sc = some (i + 1, ls, .int (sc.2 q) :: r, s) := by
  simp only [alI, arI]
  rw [if_neg (by decide)]
  simp only [roA, if_pos]
  rw [if_neg (vp_nI hq hn), nI_clamp (by omega)]
theorem rold_ok {s : Mm} {c q : Nat} {l : List Int32} (hc : 1000 < c) (hl : nthO roT (c - 1001) = some l) (hq : q < l.length) (hn : l.length < 2 ^ 31) : alI i ls (.int (nI q) :: .ref c :: r) s sc = some (i + 1, ls, .int (l.getD q 0) :: r, s) := by
  simp only [alI, arI]
  rw [if_neg (show ¬ c < 1000 by omega)]
  simp only [roA]
  rw [if_neg (show ¬ c = 1000 by omega), hl]
  simp only
  rw [if_neg (vp_nI hq hn), nI_clamp (by omega)]
theorem rbld_ok {s : Mm} {c q : Nat} {l : List Int32} (hc : 1006 < c) (hl : nthO roTB (c - 1007) = some l) (hq : q < l.length) (hn : l.length < 2 ^ 31) : alB i ls (.int (nI q) :: .ref c :: r) s = some (i + 1, ls, .int (l.getD q 0) :: r, s) := by
  simp only [alB]
  rw [if_neg (show ¬ c < 1000 by omega)]
  simp only [roB]
  rw [if_neg (show ¬ c < 1007 by omega), hl]
  simp only
  rw [if_neg (vp_nI hq hn), nI_clamp (by omega)]
theorem bald_ok {c n q : Nat} (hc : c < 1000) (hk : kdM (K, I, J, R) c = some (3, n)) (hq : q < n) (hn : n < 2 ^ 31) : alB i ls (.int (nI q) :: .ref c :: r) (K, I, J, R) = some (i + 1, ls, .int (I c q) :: r, (K, I, J, R)) := by
  simp only [alB, if_pos hc, hk]
  rw [if_neg (vp_nI hq hn), nI_clamp (by omega)]
theorem lald_ok {c n q : Nat} (hc : c < 1000) (hk : kdM (K, I, J, R) c = some (2, n)) (hq : q < n) (hn : n < 2 ^ 31) : alJ i ls (.int (nI q) :: .ref c :: r) (K, I, J, R) = some (i + 1, ls, .long (J c q) :: r, (K, I, J, R)) := by
  simp only [alJ, if_pos hc, hk]
  rw [if_neg (vp_nI hq hn), nI_clamp (by omega)]
theorem aald_ok {c n q : Nat} (hc : c < 1000) (hk : kdM (K, I, J, R) c = some (4, n)) (hq : q < n) (hn : n < 2 ^ 31) : alA i ls (.int (nI q) :: .ref c :: r) (K, I, J, R) = some (i + 1, ls, valR (R c q) :: r, (K, I, J, R)) := by
  simp only [alA, if_pos hc, hk]
  rw [if_neg (vp_nI hq hn), nI_clamp (by omega)]
theorem iast_ok {c n q : Nat} {x : Int32} (hc : c < 1000) (hk : kdM (K, I, J, R) c = some (1, n)) (hq : q < n) (hn : n < 2 ^ 31) : asI i ls (.int x :: .int (nI q) :: .ref c :: r) (K, I, J, R) = some (i + 1, ls, r, (K, uI I c q x, J, R)) := by
  simp only [asI, if_pos hc, hk]
  rw [if_neg (vp_nI hq hn), nI_clamp (by omega)]
  rfl
theorem bast_ok {c n q : Nat} {x : Int32} (hz : x = 0 ∨ x = 1) (hc : c < 1000) (hk : kdM (K, I, J, R) c = some (3, n)) (hq : q < n) (hn : n < 2 ^ 31) : asB i ls (.int x :: .int (nI q) :: .ref c :: r) (K, I, J, R) = some (i + 1, ls, r, (K, uI I c q x, J, R)) := by
  simp only [asB]
  rw [if_pos ⟨hc, hz⟩]
  simp only [hk]
  rw [if_neg (vp_nI hq hn), nI_clamp (by omega)]
  rfl
theorem last_ok {c n q : Nat} {x : Int64} (hc : c < 1000) (hk : kdM (K, I, J, R) c = some (2, n)) (hq : q < n) (hn : n < 2 ^ 31) : asJ i ls (.long x :: .int (nI q) :: .ref c :: r) (K, I, J, R) = some (i + 1, ls, r, (K, I, uJ J c q x, R)) := by
  simp only [asJ, if_pos hc, hk]
  rw [if_neg (vp_nI hq hn), nI_clamp (by omega)]
  rfl
theorem copy_ok {c0 c1 n0 n1 sp dp n : Nat} {ops : List Nat} (hc0 : c0 < 1000) (hc1 : c1 < 1000) (hr : (r.map fun v => v.category).sum ≤ 8) (h0 : kdM (K, I, J, R) c0 = some (1, n0)) (h1 : kdM (K, I, J, R) c1 = some (1, n1)) (g0 : sp + n ≤ n0) (g1 : dp + n ≤ n1) (hn0 : n0 < 2 ^ 31) (hn1 : n1 < 2 ^ 31) : pmS i ls (.int (nI n) :: .int (nI dp) :: .ref c1 :: .int (nI sp) :: .ref c0 :: r) (K, I, J, R) (2 :: ops) = some (i + 1, ls, r, (K, uC I c0 c1 sp dp n, J, R)) := by
  simp only [pmS, cpA]
  rw [if_pos ⟨hc0, hc1, hr⟩]
  simp only [h0, h1]
  have e1 := nI_clamp (n := n) (by omega)
  have e2 := nI_clamp (n := sp) (by omega)
  have e3 := nI_clamp (n := dp) (by omega)
  have p1 := nI_pos (n := n) (by omega)
  have p2 := nI_pos (n := sp) (by omega)
  have p3 := nI_pos (n := dp) (by omega)
  rw [e1, e2, e3, if_neg (by
    rintro (h | h | h | h | h)
    · exact p2 h
    · exact p3 h
    · exact p1 h
    · omega
    · omega)]
  rfl
theorem Rn_into {T : Option Nat} {a p f : Nat} {st : List Value} {pc : Nat} {idx : Nat} (ha : at_ mi i = some (0, .putfield idx, pc, 3, [5, 9, 2, p, f], 0)) (h0 : (0 : Nat) = 0) (hl : a < 105) : Rn sc d mi i ls (.ref a :: .ref 67 :: st) (K0, I, J, R1 T) Q = Rn sc d mi (i + 1) ls st (K0, I, J, R1 (some a)) Q := by
  have e1 : upR (K0, I, J, R1 T) 67 9 (some a) = (K0, I, J, R1 (some a)) := by
    unfold upR
    simp only [Prod.mk.injEq, true_and]
    funext c k
    unfold R1
    by_cases h : c = 67 ∧ k = 9
    · rw [if_pos h, if_pos h]
    · rw [if_neg h, if_neg h, if_neg h]
  have hs : st1 sc (0, .putfield idx, pc, 3, [5, 9, 2, p, f], 0) i ls (.ref a :: .ref 67 :: st) (K0, I, J, R1 T) = some (i + 1, ls, st, upR (K0, I, J, R1 T) 67 9 (some a)) := by
    simp only [st1, pF]
    rw [if_pos ⟨by decide, rfl⟩]
    rw [if_pos (show a < K0.length from hl)]
  rw [Rn_step ha rfl hs, e1]
end Steady
theorem s_iald {sc : Sc} {i pc len : Nat} {ls : Lo} {r : List Value} {K : List (Nat × Nat)} {I : Nat → Nat → Int32} {J : Nat → Nat → Int64} {R : Nat → Nat → Option Nat} {ops : List Nat} {kc : Int} {c n q : Nat} (hc : c < 1000) (hk : kdM (K, I, J, R) c = some (1, n)) (hq : q < n) (hn : n < 2 ^ 31) : st1 sc (0, .iaload, pc, len, ops, kc) i ls (.int (nI q) :: .ref c :: r) (K, I, J, R) = some (i + 1, ls, .int (I c q) :: r, (K, I, J, R)) := iald_ok hc hk hq hn
theorem s_bald {sc : Sc} {i pc len : Nat} {ls : Lo} {r : List Value} {K : List (Nat × Nat)} {I : Nat → Nat → Int32} {J : Nat → Nat → Int64} {R : Nat → Nat → Option Nat} {ops : List Nat} {kc : Int} {c n q : Nat} (hc : c < 1000) (hk : kdM (K, I, J, R) c = some (3, n)) (hq : q < n) (hn : n < 2 ^ 31) : st1 sc (0, .baload, pc, len, ops, kc) i ls (.int (nI q) :: .ref c :: r) (K, I, J, R) = some (i + 1, ls, .int (I c q) :: r, (K, I, J, R)) := bald_ok hc hk hq hn
theorem s_lald {sc : Sc} {i pc len : Nat} {ls : Lo} {r : List Value} {K : List (Nat × Nat)} {I : Nat → Nat → Int32} {J : Nat → Nat → Int64} {R : Nat → Nat → Option Nat} {ops : List Nat} {kc : Int} {c n q : Nat} (hc : c < 1000) (hk : kdM (K, I, J, R) c = some (2, n)) (hq : q < n) (hn : n < 2 ^ 31) : st1 sc (0, .laload, pc, len, ops, kc) i ls (.int (nI q) :: .ref c :: r) (K, I, J, R) = some (i + 1, ls, .long (J c q) :: r, (K, I, J, R)) := lald_ok hc hk hq hn
theorem s_aald {sc : Sc} {i pc len : Nat} {ls : Lo} {r : List Value} {K : List (Nat × Nat)} {I : Nat → Nat → Int32} {J : Nat → Nat → Int64} {R : Nat → Nat → Option Nat} {ops : List Nat} {kc : Int} {c n q : Nat} (hc : c < 1000) (hk : kdM (K, I, J, R) c = some (4, n)) (hq : q < n) (hn : n < 2 ^ 31) : st1 sc (0, .aaload, pc, len, ops, kc) i ls (.int (nI q) :: .ref c :: r) (K, I, J, R) = some (i + 1, ls, valR (R c q) :: r, (K, I, J, R)) := aald_ok hc hk hq hn
theorem s_iast {sc : Sc} {i pc len : Nat} {ls : Lo} {r : List Value} {K : List (Nat × Nat)} {I : Nat → Nat → Int32} {J : Nat → Nat → Int64} {R : Nat → Nat → Option Nat} {ops : List Nat} {kc : Int} {c n q : Nat} {x : Int32} (hc : c < 1000) (hk : kdM (K, I, J, R) c = some (1, n)) (hq : q < n) (hn : n < 2 ^ 31) : st1 sc (0, .iastore, pc, len, ops, kc) i ls (.int x :: .int (nI q) :: .ref c :: r) (K, I, J, R) = some (i + 1, ls, r, (K, uI I c q x, J, R)) := iast_ok hc hk hq hn
theorem s_last {sc : Sc} {i pc len : Nat} {ls : Lo} {r : List Value} {K : List (Nat × Nat)} {I : Nat → Nat → Int32} {J : Nat → Nat → Int64} {R : Nat → Nat → Option Nat} {ops : List Nat} {kc : Int} {c n q : Nat} {x : Int64} (hc : c < 1000) (hk : kdM (K, I, J, R) c = some (2, n)) (hq : q < n) (hn : n < 2 ^ 31) : st1 sc (0, .lastore, pc, len, ops, kc) i ls (.long x :: .int (nI q) :: .ref c :: r) (K, I, J, R) = some (i + 1, ls, r, (K, I, uJ J c q x, R)) := last_ok hc hk hq hn
theorem s_bast {sc : Sc} {i pc len : Nat} {ls : Lo} {r : List Value} {K : List (Nat × Nat)} {I : Nat → Nat → Int32} {J : Nat → Nat → Int64} {R : Nat → Nat → Option Nat} {ops : List Nat} {kc : Int} {c n q : Nat} {x : Int32} (hz : x = 0 ∨ x = 1) (hc : c < 1000) (hk : kdM (K, I, J, R) c = some (3, n)) (hq : q < n) (hn : n < 2 ^ 31) : st1 sc (0, .bastore, pc, len, ops, kc) i ls (.int x :: .int (nI q) :: .ref c :: r) (K, I, J, R) = some (i + 1, ls, r, (K, uI I c q x, J, R)) := bast_ok hz hc hk hq hn
theorem s_scld {sc : Sc} {i pc len : Nat} {ls : Lo} {r : List Value} {s : Mm} {ops : List Nat} {kc : Int} {q : Nat} (hq : q < sc.1) (hn : sc.1 < 2 ^ 31) : st1 sc (0, .iaload, pc, len, ops, kc) i ls (.int (nI q) :: .ref 1000 :: r) s = some (i + 1, ls, .int (sc.2 q) :: r, s) := scld_ok hq hn
theorem s_rold {sc : Sc} {i pc len : Nat} {ls : Lo} {r : List Value} {s : Mm} {ops : List Nat} {kc : Int} {c q : Nat} {l : List Int32} (hc : 1000 < c) (hl : nthO roT (c - 1001) = some l) (hq : q < l.length) (hn : l.length < 2 ^ 31) : st1 sc (0, .iaload, pc, len, ops, kc) i ls (.int (nI q) :: .ref c :: r) s = some (i + 1, ls, .int (l.getD q 0) :: r, s) := rold_ok hc hl hq hn
theorem s_rbld {sc : Sc} {i pc len : Nat} {ls : Lo} {r : List Value} {s : Mm} {ops : List Nat} {kc : Int} {c q : Nat} {l : List Int32} (hc : 1006 < c) (hl : nthO roTB (c - 1007) = some l) (hq : q < l.length) (hn : l.length < 2 ^ 31) : st1 sc (0, .baload, pc, len, ops, kc) i ls (.int (nI q) :: .ref c :: r) s = some (i + 1, ls, .int (l.getD q 0) :: r, s) := rbld_ok hc hl hq hn
theorem s_copy {sc : Sc} {i pc len : Nat} {ls : Lo} {r : List Value} {K : List (Nat × Nat)} {I : Nat → Nat → Int32} {J : Nat → Nat → Int64} {R : Nat → Nat → Option Nat} {ops : List Nat} {kc : Int} {idx c0 c1 n0 n1 sp dp n : Nat} (hc0 : c0 < 1000) (hc1 : c1 < 1000) (hr : (r.map fun v => v.category).sum ≤ 8) (h0 : kdM (K, I, J, R) c0 = some (1, n0)) (h1 : kdM (K, I, J, R) c1 = some (1, n1)) (g0 : sp + n ≤ n0) (g1 : dp + n ≤ n1) (hn0 : n0 < 2 ^ 31) (hn1 : n1 < 2 ^ 31) : st1 sc (0, .invokestatic idx, pc, len, 2 :: ops, kc) i ls (.int (nI n) :: .int (nI dp) :: .ref c1 :: .int (nI sp) :: .ref c0 :: r) (K, I, J, R) = some (i + 1, ls, r, (K, uC I c0 c1 sp dp n, J, R)) := copy_ok (ops := ops) hc0 hc1 hr h0 h1 g0 g1 hn0 hn1
theorem s_gF_0 {sc : Sc} {i pc len : Nat} {ls : Lo} {r : List Value} {K : List (Nat × Nat)} {I : Nat → Nat → Int32} {J : Nat → Nat → Int64} {R : Nat → Nat → Option Nat} {kc : Int} {idx c k ci p : Nat} {t : List Nat} (hc : c < 1000) (hk : kdM (K, I, J, R) c = some (0, ci)) : st1 sc (0, .getfield idx, pc, len, ci :: k :: 0 :: p :: t, kc) i ls (.ref c :: r) (K, I, J, R) = some (i + 1, ls, .int (I c k) :: r, (K, I, J, R)) := gF_0 (p := p) (t := t) hc hk
theorem s_gF_1 {sc : Sc} {i pc len : Nat} {ls : Lo} {r : List Value} {K : List (Nat × Nat)} {I : Nat → Nat → Int32} {J : Nat → Nat → Int64} {R : Nat → Nat → Option Nat} {kc : Int} {idx c k ci p : Nat} {t : List Nat} (hc : c < 1000) (hk : kdM (K, I, J, R) c = some (0, ci)) : st1 sc (0, .getfield idx, pc, len, ci :: k :: 1 :: p :: t, kc) i ls (.ref c :: r) (K, I, J, R) = some (i + 1, ls, .long (J c k) :: r, (K, I, J, R)) := gF_1 (p := p) (t := t) hc hk
theorem s_gF_2 {sc : Sc} {i pc len : Nat} {ls : Lo} {r : List Value} {K : List (Nat × Nat)} {I : Nat → Nat → Int32} {J : Nat → Nat → Int64} {R : Nat → Nat → Option Nat} {kc : Int} {idx c k ci p : Nat} {t : List Nat} (hc : c < 1000) (hk : kdM (K, I, J, R) c = some (0, ci)) : st1 sc (0, .getfield idx, pc, len, ci :: k :: 2 :: p :: t, kc) i ls (.ref c :: r) (K, I, J, R) = some (i + 1, ls, valR (R c k) :: r, (K, I, J, R)) := gF_2 (p := p) (t := t) hc hk
theorem s_pF_0 {sc : Sc} {i pc len : Nat} {ls : Lo} {r : List Value} {K : List (Nat × Nat)} {I : Nat → Nat → Int32} {J : Nat → Nat → Int64} {R : Nat → Nat → Option Nat} {kc : Int} {idx c k ci p f : Nat} {x : Int32} (hc : c < 1000) (hk : kdM (K, I, J, R) c = some (0, ci)) : st1 sc (0, .putfield idx, pc, len, [ci, k, 0, p, f], kc) i ls (.int x :: .ref c :: r) (K, I, J, R) = some (i + 1, ls, r, (K, uI I c k x, J, R)) := pF_0 (p := p) (f := f) hc hk
theorem Rn_cal {sc : Sc} {d mi i i2 : Nat} {ls ent : Lo} {st : List Value} {s : Mm} {Q : Option Value → Mm → Prop} {e : Ea} {mj na kind : Nat} {rest : List Nat} (as r : List Value) (ha : at_ mi i = some e) (h0 : e.1 = 1) (hops : e.2.2.2.2.1 = mj :: na :: kind :: rest) (hpop : popN na [] st = some (as, r)) (hcat : (r.map fun v => v.category).sum ≤ 8) (hrcv : rcv s kind (mCi mj) as = true) (hle : (entL as).length ≤ mLo mj) (hent : padL (mLo mj) (entL as) = ent) (hi : i + 1 = i2) : Rn sc (d + 1) mi i ls st s Q = Rn sc d mj 0 ent [] s (fun v s1 => Rn sc (d + 1) mi i2 ls (v.toList ++ r) s1 Q) := by
  subst hent
  subst hi
  exact Rn_call ha h0 hops hpop hcat hrcv hle
theorem rcv_ok {s : Mm} {a cj : Nat} {as : List Value} (hc : a < 1000) (hr : kdM s a = some (0, cj)) : rcv s 0 cj (.ref a :: as) = true := by
  simp only [rcv, if_pos, if_pos hc, hr, decide_true]
theorem Rn_stp {sc : Sc} {d mi i i' : Nat} {ls ls' : Lo} {st st' : List Value} {s s' : Mm} {Q : Option Value → Mm → Prop} {e : Ea} (ha : at_ mi i = some e) (h0 : e.1 = 0) (hs : st1 sc e i ls st s = some (i', ls', st', s')) : Rn sc d mi i ls st s Q = Rn sc d mi i' ls' st' s' Q := Rn_step ha h0 hs
theorem Rn_iff {sc : Sc} {d mi i i1 i2 : Nat} {ls ls1 ls2 : Lo} {st t1 t2 : List Value} {s s1 s2 : Mm} {Q : Option Value → Mm → Prop} {e : Ea} {c : Prop} [Decidable c] (ha : at_ mi i = some e) (h0 : e.1 = 0) (hs : st1 sc e i ls st s = if c then some (i1, ls1, t1, s1) else some (i2, ls2, t2, s2)) : Rn sc d mi i ls st s Q = if c then Rn sc d mi i1 ls1 t1 s1 Q else Rn sc d mi i2 ls2 t2 s2 Q := Rn_if ha h0 hs
theorem rb_len0 : (roTB.getD 0 []).length = 224 := by decide +kernel
theorem rb_len1 : (roTB.getD 1 []).length = 11 := by decide +kernel
theorem s_rb0 {sc : Sc} {i pc len q : Nat} {ls : Lo} {r : List Value} {s : Mm} {ops : List Nat} {kc : Int} (hq : q < 224) : st1 sc (0, .baload, pc, len, ops, kc) i ls (.int (nI q) :: .ref 1007 :: r) s = some (i + 1, ls, .int ((roTB.getD 0 []).getD q 0) :: r, s) := s_rbld (by decide) rfl (by rw [rb_len0]; exact hq) (by rw [rb_len0]; decide)
theorem s_rb1 {sc : Sc} {i pc len q : Nat} {ls : Lo} {r : List Value} {s : Mm} {ops : List Nat} {kc : Int} (hq : q < 11) : st1 sc (0, .baload, pc, len, ops, kc) i ls (.int (nI q) :: .ref 1008 :: r) s = some (i + 1, ls, .int ((roTB.getD 1 []).getD q 0) :: r, s) := s_rbld (by decide) rfl (by rw [rb_len1]; exact hq) (by rw [rb_len1]; decide)
