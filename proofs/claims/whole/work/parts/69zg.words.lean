/-! the words of the reference are those of the class -/
def plN (x : Nat → Nat) : Nat → Nat
  | 0 => 0
  | m + 1 => plN x m * 256 + x m
theorem pl_inj {x y : Nat → Nat} : ∀ m m', (∀ i, i < m → 1 ≤ x i ∧ x i < 256) → (∀ i, i < m' → 1 ≤ y i ∧ y i < 256) → (plN x m = plN y m' ↔ m = m' ∧ ∀ i, i < m → x i = y i)
  | 0, 0, _, _ => ⟨fun _ => ⟨rfl, fun i hi => by omega⟩, fun _ => rfl⟩
  | 0, m' + 1, _, hy => by
    have := hy m' (by omega)
    rw [plN, plN]
    exact ⟨fun h => by omega, fun h => by omega⟩
  | m + 1, 0, hx, _ => by
    have := hx m (by omega)
    rw [plN, plN]
    exact ⟨fun h => by omega, fun h => by omega⟩
  | m + 1, m' + 1, hx, hy => by
    have h1 := hx m (by omega)
    have h2 := hy m' (by omega)
    have ih := pl_inj (x := x) (y := y) m m' (fun i hi => hx i (by omega)) (fun i hi => hy i (by omega))
    rw [plN, plN]
    constructor
    · intro h
      obtain ⟨e, hi⟩ := ih.mp (by omega)
      refine ⟨by omega, fun i hi2 => ?_⟩
      by_cases c : i = m
      · rw [c]
        have : x m = y m' := by omega
        rw [this, ← e]
      · exact hi i (by omega)
    · rintro ⟨e, hi⟩
      have e2 : m = m' := by omega
      have h3 := ih.mpr ⟨e2, fun i hi2 => hi i (by omega)⟩
      have h4 := hi m (by omega)
      rw [h3, h4, e2]
theorem pl_lt {x : Nat → Nat} : ∀ m, (∀ i, i < m → x i < 256) → plN x m < 256 ^ m
  | 0, _ => by
    rw [plN]
    decide
  | m + 1, h => by
    have h1 := h m (by omega)
    have ih := pl_lt (x := x) m (fun i hi => h i (by omega))
    rw [plN, Nat.pow_succ]
    omega
theorem pl_ge {x : Nat → Nat} : ∀ m, (∀ i, i < m + 1 → 1 ≤ x i) → 256 ^ m ≤ plN x (m + 1)
  | 0, h => by
    have := h 0 (by omega)
    rw [plN, plN]
    omega
  | m + 1, h => by
    have ih := pl_ge (x := x) m (fun i hi => h i (by omega))
    rw [plN, Nat.pow_succ]
    omega
theorem p6 {m : Nat} (h : m ≤ 6) : 256 ^ m ≤ 2 ^ 48 := by
  have := Nat.pow_le_pow_right (show 0 < 256 by decide) h
  omega
theorem wd_pl {b : Nat → Nat} {q : Nat} : ∀ m, m ≤ 6 → (∀ i, i < m → b (q + i) < 256) → wdF b q m = plN (fun i => b (q + i)) m
  | 0, _, _ => rfl
  | m + 1, hm, h => by
    have ih := wd_pl (b := b) (q := q) m (by omega) (fun i hi => h i (by omega))
    have l := pl_lt (x := fun i => b (q + i)) m (fun i hi => h i (by omega))
    have p5 : 256 ^ m ≤ 2 ^ 40 := by
      have := Nat.pow_le_pow_right (show 0 < 256 by decide) (show m ≤ 5 by omega)
      omega
    rw [wdF, plN, ih, if_neg (by omega)]
theorem wd_7 {b : Nat → Nat} {q : Nat} : ∀ m, (∀ i, i < m + 7 → 1 ≤ b (q + i) ∧ b (q + i) < 256) → 2 ^ 48 ≤ wdF b q (m + 7)
  | 0, h => by
    have e := wd_pl (b := b) (q := q) 6 (by omega) (fun i hi => (h i (by omega)).2)
    have g : 256 ^ 5 ≤ plN (fun i => b (q + i)) 6 := pl_ge (x := fun i => b (q + i)) 5 (fun i hi => (h i (by omega)).1)
    show 2 ^ 48 ≤ wdF b q (6 + 1)
    rw [wdF, e]
    split <;> omega
  | m + 1, h => by
    have ih := wd_7 (b := b) (q := q) m (fun i hi => h i (by omega))
    show 2 ^ 48 ≤ wdF b q (m + 7 + 1)
    rw [wdF, if_pos ih]
    decide
def wlen (w : Nat) : Nat := fi (fun i => decide (wch (w * 8 + i) = 32)) 8
def wV (w : Nat) : Nat := plN (fun i => wch (w * 8 + i)) (wlen w)
theorem wl_f : ∀ w, w < 28 → ∀ i, i < 8 → (wch (w * 8 + i) = 32 ↔ wlen w ≤ i) := by decide +kernel
theorem wl_6 : ∀ w, w < 28 → 0 < w → wlen w ≤ 6 := by decide +kernel
theorem wl_8 : ∀ w, w < 28 → wlen w ≤ 8 := by decide +kernel
theorem wl_1 : ∀ w, w < 28 → ∀ i, i < 8 → 1 ≤ wch (w * 8 + i) ∧ wch (w * 8 + i) < 256 := by decide +kernel
theorem wl_u : ∀ w, w < 28 → ∀ v, v < 28 → (∀ i, i < 8 → wch (w * 8 + i) = wch (v * 8 + i)) → w = v := by decide +kernel
/-- the letters from q on are the word w -/
def isW (b : Nat → Nat) (q m w : Nat) : Prop := m = wlen w ∧ ∀ i, i < m → b (q + i) = wch (w * 8 + i)
theorem mt_all' {b : Nat → Nat} {q e w : Nat} : mtW b q e w = true ↔ e - q ≤ 8 ∧ ∀ i, i < 8 → wch (w * 8 + i) = if i < e - q then b (q + i) else 32 := by
  unfold mtW
  rw [Bool.and_eq_true, decide_eq_true_eq, decide_eq_true_eq]
  refine and_congr_right (fun _ => ?_)
  obtain ⟨p1, p2, p3⟩ := fi_sp (f := fun i => !mtC b q e w i) 8
  constructor
  · intro h i hi
    have this : (!mtC b q e w i) = false := p2 i (by omega)
    have h2 : mtC b q e w i = true := by
      cases c : mtC b q e w i
      · rw [c] at this
        cases this
      · rfl
    exact of_decide_eq_true h2
  · intro h
    exact fi_n (fun i hi => by
      show (!mtC b q e w i) = false
      rw [show mtC b q e w i = true from decide_eq_true (h i hi)]
      rfl)
theorem mt_w {b : Nat → Nat} {q e w : Nat} (hw : w < 28) (hL : ∀ i, i < e - q → isL (b (q + i)) = true) : mtW b q e w = true ↔ isW b q (e - q) w := by
  have l8 := wl_8 w hw
  have ne : ∀ i, i < e - q → b (q + i) ≠ 32 := fun i hi h => by
    have := of_decide_eq_true (hL i hi)
    omega
  rw [mt_all']
  constructor
  · rintro ⟨h1, h2⟩
    have em : e - q = wlen w := by
      apply Nat.le_antisymm
      · apply Nat.le_of_not_lt
        intro hc
        have h3 := h2 (wlen w) (by omega)
        rw [if_pos hc, (wl_f w hw (wlen w) (by omega)).mpr (Nat.le_refl _)] at h3
        exact ne _ hc h3.symm
      · apply Nat.le_of_not_lt
        intro hc
        have h3 := h2 (e - q) (by omega)
        rw [if_neg (Nat.lt_irrefl _)] at h3
        have := (wl_f w hw (e - q) (by omega)).mp h3
        omega
    refine ⟨em, fun i hi => ?_⟩
    rw [h2 i (by omega), if_pos hi]
  · rintro ⟨h1, h2⟩
    refine ⟨by omega, fun i hi => ?_⟩
    by_cases c : i < e - q
    · rw [if_pos c, h2 i c]
    · rw [if_neg c]
      exact (wl_f w hw i hi).mpr (by omega)
theorem wK_w {b : Nat → Nat} {q e w : Nat} (hw : w < 28) : wK b q e = w ↔ mtW b q e w = true := by
  obtain ⟨p1, p2, p3⟩ := fi_sp (f := mtW b q e) 28
  constructor
  · intro h
    unfold wK at h
    split at h
    · next c =>
      rw [← h]
      exact p3 c
    · omega
  · intro h
    have : fi (mtW b q e) 28 = w := fi_u hw h (fun i hi => by
      cases c : mtW b q e i
      · rfl
      · have h1 := mt_all'.mp h
        have h2 := mt_all'.mp c
        have := wl_u w hw i (by omega) (fun j hj => (h1.2 j hj).trans (h2.2 j hj).symm)
        omega)
    unfold wK
    rw [this, if_pos hw]
theorem wd_w {b : Nat → Nat} {q m w : Nat} (hw : w < 28) (h0 : 0 < w) (hL : ∀ i, i < m → isL (b (q + i)) = true) : wdF b q m = wV w ↔ isW b q m w := by
  have l6 := wl_6 w hw h0
  have ob : ∀ i, i < m → 1 ≤ b (q + i) ∧ b (q + i) < 256 := fun i hi => by
    have := of_decide_eq_true (hL i hi)
    omega
  have ow : ∀ i, i < wlen w → 1 ≤ wch (w * 8 + i) ∧ wch (w * 8 + i) < 256 := fun i hi => wl_1 w hw i (by omega)
  by_cases c : m ≤ 6
  · rw [wd_pl m c (fun i hi => (ob i hi).2)]
    exact pl_inj m (wlen w) ob ow
  · have h7 := wd_7 (b := b) (q := q) (m - 7) (fun i hi => ob i (by omega))
    rw [show m - 7 + 7 = m by omega] at h7
    have lv := pl_lt (x := fun i => wch (w * 8 + i)) (wlen w) (fun i hi => (ow i hi).2)
    have l48 := p6 l6
    constructor
    · intro h
      unfold wV at h
      omega
    · intro h
      have := h.1
      omega
def sgT (s : Nat) : Nat := [60, 62, 61, 35, 43, 45, 42, 47, 40, 41, 59, 4, 5, 1, 0].getD (s - 28) 0
theorem sg_c1 : ∀ c, c < 256 → ∀ s, s < 43 → (isL c || isD c || decide (s < 28) || (decide (sK c = s) == decide ((if sgB c = true then c else 3) = sgT s))) = true := by decide +kernel
theorem sg_c {c : Nat} (hc : c < 256) {s : Nat} (hs : s < 43) (h1 : isL c = false) (h2 : isD c = false) (h8 : 28 ≤ s) : sK c = s ↔ (if sgB c = true then c else 3) = sgT s := by
  have h := sg_c1 c hc s hs
  rw [h1, h2, decide_eq_false (show ¬ s < 28 by omega), Bool.false_or, Bool.false_or, Bool.false_or, beq_iff_eq] at h
  exact decide_eq_decide.mp h
theorem sg_45 : ∀ s, s < 43 → 28 ≤ s → (39 = s ↔ 4 = sgT s) ∧ (40 = s ↔ 5 = sgT s) ∧ (41 = s ↔ 1 = sgT s) ∧ (42 = s ↔ 0 = sgT s) ∧ ¬ 2 = sgT s := by decide +kernel
theorem tk_s {b : Nat → Nat} {n p s : Nat} (hb : ∀ k, k < n → b k < 256) (hs : s < 43) (h8 : 28 ≤ s) : tT b n p = sgT s ↔ tK b n p = s := by
  obtain ⟨s1, s2, s3, s4, s5⟩ := sg_45 s hs h8
  unfold tT tK
  obtain ⟨q, eq⟩ : ∃ q, q = tS b n p := ⟨_, rfl⟩
  rw [← eq]
  unfold tkq kdq
  by_cases c : n ≤ q
  · rw [if_pos c, if_pos c]
    exact s4.symm
  · have b2 := hb q (by omega)
    rw [if_neg c, if_neg c]
    by_cases c2 : isD (b q) = true
    · have c1 : ¬ isL (b q) = true := fun h => by
        have h1 := of_decide_eq_true h
        have h2 := of_decide_eq_true c2
        omega
      rw [if_pos c2, if_neg c1, if_pos c2]
      exact s3.symm
    · rw [if_neg c2]
      by_cases c1 : isL (b q) = true
      · rw [if_pos c1, if_pos c1]
        refine ⟨fun h => absurd h s5, fun h => ?_⟩
        unfold wK at h
        split at h <;> omega
      · rw [if_neg c1, if_neg c1, if_neg c2, ← l2_e b2]
        have f1 : isL (b q) = false := by
          cases cc : isL (b q)
          · rfl
          · exact absurd cc c1
        have f2 : isD (b q) = false := by
          cases cc : isD (b q)
          · rfl
          · exact absurd cc c2
        have g1 := sg_c b2 hs f1 f2 h8
        have g2 := (lt_le (b q) b2).1.mpr
        have g3 := (lt_le (b q) b2).2.mpr
        by_cases cl : le2 b n q = true
        · rw [if_pos cl, if_pos cl]
          rcases (of_decide_eq_true cl).1 with h | h
          · rw [if_pos h, if_pos (g2 h)]
            exact s1.symm
          · rw [if_neg (by omega), if_neg (by rw [g3 h]; decide)]
            exact s2.symm
        · rw [if_neg cl, if_neg cl]
          exact g1.symm
theorem tk_w {b : Nat → Nat} {n p w : Nat} (hp : p ≤ n) (hw : w < 28) : tK b n p = w ↔ tT b n p = 2 ∧ isW b (tS b n p) (wlN isL b n (tS b n p) - tS b n p) w := by
  obtain ⟨g1, g2⟩ := tS_le (b := b) hp
  unfold tT tK
  obtain ⟨q, eq⟩ : ∃ q, q = tS b n p := ⟨_, rfl⟩
  rw [← eq] at g2 ⊢
  unfold tkq kdq
  by_cases c : n ≤ q
  · rw [if_pos c, if_pos c]
    exact ⟨fun h => by omega, fun h => by omega⟩
  · rw [if_neg c, if_neg c]
    by_cases c2 : isD (b q) = true
    · have c1 : ¬ isL (b q) = true := fun h => by
        have h1 := of_decide_eq_true h
        have h2 := of_decide_eq_true c2
        omega
      rw [if_neg c1, if_pos c2, if_pos c2]
      exact ⟨fun h => by omega, fun h => by omega⟩
    · by_cases c1 : isL (b q) = true
      · obtain ⟨w1, w2, w3, -⟩ := wl_sp (P := isL) (b := b) (n := n) (n - q) q rfl g2
        rw [if_pos c1, if_neg c2, if_pos c1, wK_w hw, mt_w hw (fun i hi => w3 (q + i) (by omega) (by omega))]
        exact ⟨fun h => ⟨rfl, h⟩, fun h => h.2⟩
      · rw [if_neg c1, if_neg c2, if_neg c2, if_neg c1]
        have k1 : 28 ≤ sK (b q) := by
          unfold sK
          split <;> omega
        constructor
        · intro h
          split at h
          · split at h <;> omega
          · omega
        · rintro ⟨h, -⟩
          split at h
          · split at h <;> omega
          · split at h
            · next cs =>
              have := of_decide_eq_true cs
              omega
            · omega
theorem tk_v {b : Nat → Nat} {n p w : Nat} (hp : p ≤ n) (hw : w < 28) (h0 : 0 < w) : (tT b n p = 2 ∧ tW b n p = wV w) ↔ tK b n p = w := by
  obtain ⟨g1, g2⟩ := tS_le (b := b) hp
  obtain ⟨w1, w2, w3, -⟩ := wl_sp (P := isL) (b := b) (n := n) (n - tS b n p) (tS b n p) rfl g2
  rw [tk_w hp hw]
  unfold tW
  rw [wd_w hw h0 (fun i hi => w3 _ (by omega) (by omega))]
theorem tW_lt {b : Nat → Nat} {n p : Nat} (hp : p ≤ n) (hb : ∀ k, k < n → b k < 256) : tW b n p < 2 ^ 61 := by
  obtain ⟨g1, g2⟩ := tS_le (b := b) hp
  have w2 := wl_le (P := isL) (b := b) g2
  exact wd_lt _ (fun i hi => hb _ (by omega))
theorem tT_lt {b : Nat → Nat} {n p : Nat} (hb : ∀ k, k < n → b k < 256) : tT b n p < 256 := by
  unfold tT tkq
  split
  · decide
  · next c =>
    have := hb (tS b n p) (by omega)
    repeat' split
    all_goals omega
section Words
variable {sc : Sc} {d : Nat} {J : Nat → Nat → Int64} {T : Option Nat} {b : Nat → Nat} {n p : Nat} {I : Nat → Nat → Int32} {Q : Option Value → Mm → Prop}
theorem l_shl2 {a : Nat} (h : a < 2 ^ 48) : lN a <<< (lN 8 &&& 63) = lN (a * 256) := by
  rw [← nI_l (show 8 < 2 ^ 31 by decide)]
  exact l_shl h
theorem sp_w2 {x y : Nat} (hx : x < 256) (hy : y < 256) : Rn sc d 188 0 [some (.int (nI x)), some (.int (nI y))] [] (K0, I, J, R1 T) Q = Q (some (.long (lN (x * 256 + y)))) (K0, I, J, R1 T) := by
  simp (disch := first | assumption | omega | decide) only [x188_0, x188_1, x188_2, x188_3, x188_4, x188_5, x188_6, x188_7, nI_l, l_shl2, l_or]
theorem sp_w3 {x y z : Nat} (hx : x < 256) (hy : y < 256) (hz : z < 256) : Rn sc (d + 1) 189 0 [some (.int (nI x)), some (.int (nI y)), some (.int (nI z))] [] (K0, I, J, R1 T) Q = Q (some (.long (lN ((x * 256 + y) * 256 + z)))) (K0, I, J, R1 T) := by
  simp (disch := first | assumption | omega | decide) only [x189_0, x189_1, x189_2, x189_3, x189_4, x189_5, x189_6, x189_7, x189_8, sp_w2, Option.toList, List.nil_append, List.cons_append, nI_l, l_shl2, l_or]
theorem sp_w4 {x y z u : Nat} (hx : x < 256) (hy : y < 256) (hz : z < 256) (hu : u < 256) : Rn sc (d + 2) 190 0 [some (.int (nI x)), some (.int (nI y)), some (.int (nI z)), some (.int (nI u))] [] (K0, I, J, R1 T) Q = Q (some (.long (lN (((x * 256 + y) * 256 + z) * 256 + u)))) (K0, I, J, R1 T) := by
  simp (disch := first | assumption | omega | decide) only [x190_0, x190_1, x190_2, x190_3, x190_4, x190_5, x190_6, x190_7, x190_8, x190_9, sp_w3, Option.toList, List.nil_append, List.cons_append, nI_l, l_shl2, l_or]
theorem sp_w5 {x y z u v : Nat} (hx : x < 256) (hy : y < 256) (hz : z < 256) (hu : u < 256) (hv : v < 256) : Rn sc (d + 3) 191 0 [some (.int (nI x)), some (.int (nI y)), some (.int (nI z)), some (.int (nI u)), some (.int (nI v))] [] (K0, I, J, R1 T) Q = Q (some (.long (lN ((((x * 256 + y) * 256 + z) * 256 + u) * 256 + v)))) (K0, I, J, R1 T) := by
  simp (disch := first | assumption | omega | decide) only [x191_0, x191_1, x191_2, x191_3, x191_4, x191_5, x191_6, x191_7, x191_8, x191_9, x191_10, sp_w4, Option.toList, List.nil_append, List.cons_append, nI_l, l_shl2, l_or]
theorem sp_w6 {x y z u v r : Nat} (hx : x < 256) (hy : y < 256) (hz : z < 256) (hu : u < 256) (hv : v < 256) (hr : r < 256) : Rn sc (d + 4) 192 0 [some (.int (nI x)), some (.int (nI y)), some (.int (nI z)), some (.int (nI u)), some (.int (nI v)), some (.int (nI r))] [] (K0, I, J, R1 T) Q = Q (some (.long (lN (((((x * 256 + y) * 256 + z) * 256 + u) * 256 + v) * 256 + r)))) (K0, I, J, R1 T) := by
  simp (disch := first | assumption | omega | decide) only [x192_0, x192_1, x192_2, x192_3, x192_4, x192_5, x192_6, x192_7, x192_8, x192_9, x192_10, x192_11, sp_w5, Option.toList, List.nil_append, List.cons_append, nI_l, l_shl2, l_or]
theorem lc_w {V w : Nat} (hV : V = wV w) (hp : p ≤ n) (hb : ∀ k, k < n → b k < 256) (hw : w < 28) (h0 : 0 < w) (h2 : tT b n p = 2) : (lg_cmp (lN (tW b n p)) (lN V) = nI 0) = (tK b n p = w) := by
  have e : (lg_cmp (lN (tW b n p)) (lN V) = nI 0) = (lN (tW b n p) = lN V) := j_eq _ _
  have l1 := tW_lt hp hb
  have l2 := pl_lt (x := fun i => wch (w * 8 + i)) (wlen w) (fun i hi => (wl_1 w hw i (by have := wl_8 w hw; omega)).2)
  have l3 := p6 (wl_6 w hw h0)
  have e3 : wV w = plN (fun i => wch (w * 8 + i)) (wlen w) := rfl
  rw [e]
  apply propext
  rw [pk_lEQ (by omega) (by omega), hV, ← tk_v hp hw h0]
  exact ⟨fun h => ⟨h2, h⟩, fun h => h.2⟩
theorem sp_isWd {V w : Nat} (hV : V = wV w) (hp : p ≤ n) (hb : ∀ k, k < n → b k < 256) (hw : w < 28) (h0 : 0 < w) (t : TkM I J b n p) : Rn sc d 193 0 [some (.ref 89), some (.long (lN V)), none] [] (K0, I, J, R1 T) Q = Q (some (.int (bI (tK b n p = w)))) (K0, I, J, R1 T) := by
  obtain ⟨-, -, e9, -, e11⟩ := t
  have l1 := tT_lt (p := p) hb
  by_cases c : tT b n p = 2
  · have lc := lc_w hV hp hb hw h0 c
    have e11 := e11 c
    by_cases c2 : tK b n p = w
    · rw [bI_t c2]
      simp (disch := first | assumption | omega | decide) only [x193_0, x193_1, x193_2, x193_3, x193_4, x193_5, x193_6, x193_7, x193_8, x193_9, x193_10, x193_11, x193_12, ↓reduceIte, Option.toList, List.nil_append, List.cons_append, nI_add, pk_mul, n_and, n_or, n_xor, nI_leI, nI_ltI, nI_eq, n_z, uI_s, uI_n, bI_n0, bI_n1, bT, bF, if_true, if_false, not_true, not_false_eq_true, pk_div, pk_rem, Nat.reduceEqDiff, Nat.reduceLeDiff, Nat.reduceLT, Nat.reduceAdd, Nat.reduceMul, Nat.reduceSub, Nat.not_lt_zero, Nat.zero_le, reduceCtorEq, ite_self, n_rem, and_self, and_true, true_and, and_false, false_and, e9, c, e11, lc, c2]
    · rw [bI_f c2]
      simp (disch := first | assumption | omega | decide) only [x193_0, x193_1, x193_2, x193_3, x193_4, x193_5, x193_6, x193_7, x193_8, x193_9, x193_10, x193_11, x193_12, ↓reduceIte, Option.toList, List.nil_append, List.cons_append, nI_add, pk_mul, n_and, n_or, n_xor, nI_leI, nI_ltI, nI_eq, n_z, uI_s, uI_n, bI_n0, bI_n1, bT, bF, if_true, if_false, not_true, not_false_eq_true, pk_div, pk_rem, Nat.reduceEqDiff, Nat.reduceLeDiff, Nat.reduceLT, Nat.reduceAdd, Nat.reduceMul, Nat.reduceSub, Nat.not_lt_zero, Nat.zero_le, reduceCtorEq, ite_self, n_rem, and_self, and_true, true_and, and_false, false_and, e9, c, e11, lc, c2]
  · have c2 : ¬ tK b n p = w := fun h => c ((tk_v hp hw h0).mpr h).1
    rw [bI_f c2]
    simp (disch := first | assumption | omega | decide) only [x193_0, x193_1, x193_2, x193_3, x193_4, x193_5, x193_6, x193_7, x193_8, x193_9, x193_10, x193_11, x193_12, ↓reduceIte, Option.toList, List.nil_append, List.cons_append, nI_add, pk_mul, n_and, n_or, n_xor, nI_leI, nI_ltI, nI_eq, n_z, uI_s, uI_n, bI_n0, bI_n1, bT, bF, if_true, if_false, not_true, not_false_eq_true, pk_div, pk_rem, Nat.reduceEqDiff, Nat.reduceLeDiff, Nat.reduceLT, Nat.reduceAdd, Nat.reduceMul, Nat.reduceSub, Nat.not_lt_zero, Nat.zero_le, reduceCtorEq, ite_self, n_rem, and_self, and_true, true_and, and_false, false_and, e9, c]
theorem iw_1 (hp : p ≤ n) (hb : ∀ k, k < n → b k < 256) (t : TkM I J b n p) : Rn sc d 193 0 [some (.ref 89), some (.long (lN 1919250036)), none] [] (K0, I, J, R1 T) Q = Q (some (.int (bI (tK b n p = 1)))) (K0, I, J, R1 T) := sp_isWd (by decide +kernel) hp hb (by decide) (by decide) t
theorem iw_2 (hp : p ≤ n) (hb : ∀ k, k < n → b k < 256) (t : TkM I J b n p) : Rn sc d 193 0 [some (.ref 89), some (.long (lN 1919902052)), none] [] (K0, I, J, R1 T) Q = Q (some (.int (bI (tK b n p = 2)))) (K0, I, J, R1 T) := sp_isWd (by decide +kernel) hp hb (by decide) (by decide) t
theorem iw_3 (hp : p ≤ n) (hb : ∀ k, k < n → b k < 256) (t : TkM I J b n p) : Rn sc d 193 0 [some (.ref 89), some (.long (lN 125848672761202)), none] [] (K0, I, J, R1 T) Q = Q (some (.int (bI (tK b n p = 3)))) (K0, I, J, R1 T) := sp_isWd (by decide +kernel) hp hb (by decide) (by decide) t
theorem iw_4 (hp : p ≤ n) (hb : ∀ k, k < n → b k < 256) (t : TkM I J b n p) : Rn sc d 193 0 [some (.ref 89), some (.long (lN 491495845235)), none] [] (K0, I, J, R1 T) Q = Q (some (.int (bI (tK b n p = 4)))) (K0, I, J, R1 T) := sp_isWd (by decide +kernel) hp hb (by decide) (by decide) t
theorem iw_5 (hp : p ≤ n) (hb : ∀ k, k < n → b k < 256) (t : TkM I J b n p) : Rn sc d 193 0 [some (.ref 89), some (.long (lN 1952803948)), none] [] (K0, I, J, R1 T) Q = Q (some (.int (bI (tK b n p = 5)))) (K0, I, J, R1 T) := sp_isWd (by decide +kernel) hp hb (by decide) (by decide) t
theorem iw_6 (hp : p ≤ n) (hb : ∀ k, k < n → b k < 256) (t : TkM I J b n p) : Rn sc d 193 0 [some (.ref 89), some (.long (lN 1752527720)), none] [] (K0, I, J, R1 T) Q = Q (some (.int (bI (tK b n p = 6)))) (K0, I, J, R1 T) := sp_isWd (by decide +kernel) hp hb (by decide) (by decide) t
theorem iw_7 (hp : p ≤ n) (hb : ∀ k, k < n → b k < 256) (t : TkM I J b n p) : Rn sc d 193 0 [some (.ref 89), some (.long (lN 6578553)), none] [] (K0, I, J, R1 T) Q = Q (some (.int (bI (tK b n p = 7)))) (K0, I, J, R1 T) := sp_isWd (by decide +kernel) hp hb (by decide) (by decide) t
theorem iw_8 (hp : p ≤ n) (hb : ∀ k, k < n → b k < 256) (t : TkM I J b n p) : Rn sc d 193 0 [some (.ref 89), some (.long (lN 483006772069)), none] [] (K0, I, J, R1 T) Q = Q (some (.int (bI (tK b n p = 8)))) (K0, I, J, R1 T) := sp_isWd (by decide +kernel) hp hb (by decide) (by decide) t
theorem iw_9 (hp : p ≤ n) (hb : ∀ k, k < n → b k < 256) (t : TkM I J b n p) : Rn sc d 193 0 [some (.ref 89), some (.long (lN 448546567013)), none] [] (K0, I, J, R1 T) Q = Q (some (.int (bI (tK b n p = 9)))) (K0, I, J, R1 T) := sp_isWd (by decide +kernel) hp hb (by decide) (by decide) t
theorem iw_10 (hp : p ≤ n) (hb : ∀ k, k < n → b k < 256) (t : TkM I J b n p) : Rn sc d 193 0 [some (.ref 89), some (.long (lN 121450625394034)), none] [] (K0, I, J, R1 T) Q = Q (some (.int (bI (tK b n p = 10)))) (K0, I, J, R1 T) := sp_isWd (by decide +kernel) hp hb (by decide) (by decide) t
theorem iw_11 (hp : p ≤ n) (hb : ∀ k, k < n → b k < 256) (t : TkM I J b n p) : Rn sc d 193 0 [some (.ref 89), some (.long (lN 500136506472)), none] [] (K0, I, J, R1 T) Q = Q (some (.int (bI (tK b n p = 11)))) (K0, I, J, R1 T) := sp_isWd (by decide +kernel) hp hb (by decide) (by decide) t
theorem iw_12 (hp : p ≤ n) (hb : ∀ k, k < n → b k < 256) (t : TkM I J b n p) : Rn sc d 193 0 [some (.ref 89), some (.long (lN 1852137842)), none] [] (K0, I, J, R1 T) Q = Q (some (.int (bI (tK b n p = 12)))) (K0, I, J, R1 T) := sp_isWd (by decide +kernel) hp hb (by decide) (by decide) t
theorem iw_13 (hp : p ≤ n) (hb : ∀ k, k < n → b k < 256) (t : TkM I J b n p) : Rn sc d 193 0 [some (.ref 89), some (.long (lN 1718773093)), none] [] (K0, I, J, R1 T) Q = Q (some (.int (bI (tK b n p = 13)))) (K0, I, J, R1 T) := sp_isWd (by decide +kernel) hp hb (by decide) (by decide) t
theorem iw_14 (hp : p ≤ n) (hb : ∀ k, k < n → b k < 256) (t : TkM I J b n p) : Rn sc d 193 0 [some (.ref 89), some (.long (lN 6384748)), none] [] (K0, I, J, R1 T) Q = Q (some (.int (bI (tK b n p = 14)))) (K0, I, J, R1 T) := sp_isWd (by decide +kernel) hp hb (by decide) (by decide) t
theorem iw_15 (hp : p ≤ n) (hb : ∀ k, k < n → b k < 256) (t : TkM I J b n p) : Rn sc d 193 0 [some (.ref 89), some (.long (lN 115922835565925)), none] [] (K0, I, J, R1 T) Q = Q (some (.int (bI (tK b n p = 15)))) (K0, I, J, R1 T) := sp_isWd (by decide +kernel) hp hb (by decide) (by decide) t
theorem iw_16 (hp : p ≤ n) (hb : ∀ k, k < n → b k < 256) (t : TkM I J b n p) : Rn sc d 193 0 [some (.ref 89), some (.long (lN 29807)), none] [] (K0, I, J, R1 T) Q = Q (some (.int (bI (tK b n p = 16)))) (K0, I, J, R1 T) := sp_isWd (by decide +kernel) hp hb (by decide) (by decide) t
theorem iw_17 (hp : p ≤ n) (hb : ∀ k, k < n → b k < 256) (t : TkM I J b n p) : Rn sc d 193 0 [some (.ref 89), some (.long (lN 24948)), none] [] (K0, I, J, R1 T) Q = Q (some (.int (bI (tK b n p = 17)))) (K0, I, J, R1 T) := sp_isWd (by decide +kernel) hp hb (by decide) (by decide) t
theorem iw_18 (hp : p ≤ n) (hb : ∀ k, k < n → b k < 256) (t : TkM I J b n p) : Rn sc d 193 0 [some (.ref 89), some (.long (lN 28518)), none] [] (K0, I, J, R1 T) Q = Q (some (.int (bI (tK b n p = 18)))) (K0, I, J, R1 T) := sp_isWd (by decide +kernel) hp hb (by decide) (by decide) t
theorem iw_19 (hp : p ≤ n) (hb : ∀ k, k < n → b k < 256) (t : TkM I J b n p) : Rn sc d 193 0 [some (.ref 89), some (.long (lN 1835360622)), none] [] (K0, I, J, R1 T) Q = Q (some (.int (bI (tK b n p = 19)))) (K0, I, J, R1 T) := sp_isWd (by decide +kernel) hp hb (by decide) (by decide) t
theorem iw_20 (hp : p ≤ n) (hb : ∀ k, k < n → b k < 256) (t : TkM I J b n p) : Rn sc d 193 0 [some (.ref 89), some (.long (lN 1801810036)), none] [] (K0, I, J, R1 T) Q = Q (some (.int (bI (tK b n p = 20)))) (K0, I, J, R1 T) := sp_isWd (by decide +kernel) hp hb (by decide) (by decide) t
theorem iw_21 (hp : p ≤ n) (hb : ∀ k, k < n → b k < 256) (t : TkM I J b n p) : Rn sc d 193 0 [some (.ref 89), some (.long (lN 26982)), none] [] (K0, I, J, R1 T) Q = Q (some (.int (bI (tK b n p = 21)))) (K0, I, J, R1 T) := sp_isWd (by decide +kernel) hp hb (by decide) (by decide) t
theorem iw_22 (hp : p ≤ n) (hb : ∀ k, k < n → b k < 256) (t : TkM I J b n p) : Rn sc d 193 0 [some (.ref 89), some (.long (lN 1952998766)), none] [] (K0, I, J, R1 T) Q = Q (some (.int (bI (tK b n p = 22)))) (K0, I, J, R1 T) := sp_isWd (by decide +kernel) hp hb (by decide) (by decide) t
theorem iw_23 (hp : p ≤ n) (hb : ∀ k, k < n → b k < 256) (t : TkM I J b n p) : Rn sc d 193 0 [some (.ref 89), some (.long (lN 1701606245)), none] [] (K0, I, J, R1 T) Q = Q (some (.int (bI (tK b n p = 23)))) (K0, I, J, R1 T) := sp_isWd (by decide +kernel) hp hb (by decide) (by decide) t
theorem iw_24 (hp : p ≤ n) (hb : ∀ k, k < n → b k < 256) (t : TkM I J b n p) : Rn sc d 193 0 [some (.ref 89), some (.long (lN 6647396)), none] [] (K0, I, J, R1 T) Q = Q (some (.int (bI (tK b n p = 24)))) (K0, I, J, R1 T) := sp_isWd (by decide +kernel) hp hb (by decide) (by decide) t
theorem iw_25 (hp : p ≤ n) (hb : ∀ k, k < n → b k < 256) (t : TkM I J b n p) : Rn sc d 193 0 [some (.ref 89), some (.long (lN 28530)), none] [] (K0, I, J, R1 T) Q = Q (some (.int (bI (tK b n p = 25)))) (K0, I, J, R1 T) := sp_isWd (by decide +kernel) hp hb (by decide) (by decide) t
theorem iw_26 (hp : p ≤ n) (hb : ∀ k, k < n → b k < 256) (t : TkM I J b n p) : Rn sc d 193 0 [some (.ref 89), some (.long (lN 6385252)), none] [] (K0, I, J, R1 T) Q = Q (some (.int (bI (tK b n p = 26)))) (K0, I, J, R1 T) := sp_isWd (by decide +kernel) hp hb (by decide) (by decide) t
theorem iw_27 (hp : p ≤ n) (hb : ∀ k, k < n → b k < 256) (t : TkM I J b n p) : Rn sc d 193 0 [some (.ref 89), some (.long (lN 7237492)), none] [] (K0, I, J, R1 T) Q = Q (some (.int (bI (tK b n p = 27)))) (K0, I, J, R1 T) := sp_isWd (by decide +kernel) hp hb (by decide) (by decide) t
end Words
