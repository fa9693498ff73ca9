/-! in how many ways: sums over sets against sums over colours -/
def rc (B : Nat) (ok : Nat → (Nat → Nat) → Nat → Prop) [dk : ∀ k r h, Decidable (ok k r h)] : Nat → Nat → (Nat → Nat) → Nat
  | 0, _, _ => 1
  | m + 1, k, r => sm (fun h => if ok k r h then rc B ok m (k + 1) (upA r k h) else 0) B
theorem bt_rc {B : Nat} {ok : Nat → (Nat → Nat) → Nat → Prop} [dk : ∀ k r h, Decidable (ok k r h)] : ∀ (m k : Nat) (r : Nat → Nat) (s : Nat × (Nat → Int32)), (btA B ok m k r s).1 = s.1 + rc B ok m k r
  | 0, k, r, s => rfl
  | m + 1, k, r, s => by
    rw [bt_s, rc]
    have key : ∀ j, (foldS (chB B ok m k r) s j).1 = s.1 + sm (fun h => if ok k r h then rc B ok m (k + 1) (upA r k h) else 0) j := by
      intro j
      induction j with
      | zero => rfl
      | succ j ih =>
        rw [foldS_s, sm, chB]
        by_cases c : ok k r j
        · rw [if_pos c, if_pos c, bt_rc m (k + 1) (upA r k j), ih, Nat.add_assoc]
        · rw [if_neg c, if_neg c, ih]
          omega
    exact key B
/-- 1 if no road is inside -/
def on (A : Nat → Nat) (S : Nat) : Nat := if inR' A S = 0 then 1 else 0
def pr (A : Nat → Nat) (M : Nat → Nat) : Nat → Nat
  | 0 => 1
  | t + 1 => pr A M t * on A (M t)
/-- all ways, houses k and on being given out -/
def fs (A : Nat → Nat) (n : Nat) : Nat → Nat → (Nat → Nat) → Nat
  | 0, _, M => pr A M n
  | m + 1, k, M => sm (fun h => fs A n m (k + 1) (upA M h (M h + 2 ^ k))) n
theorem ad_or {M k : Nat} (h : M < 2 ^ k) : M + 2 ^ k = M ||| 2 ^ k := by
  have := Nat.two_pow_add_eq_or_of_lt h 1
  rw [Nat.mul_one] at this
  rw [Nat.add_comm, this, Nat.or_comm]
theorem lt_tb {M k i : Nat} (h : M < 2 ^ k) (hi : k ≤ i) : M.testBit i = false := Nat.testBit_lt_two_pow (Nat.lt_of_lt_of_le h (Nat.pow_le_pow_right (by decide) hi))
theorem on_add {A : Nat → Nat} {M k : Nat} (w : Wf A) (hk : k < 8) (hM : M < 2 ^ k) : on A (M + 2 ^ k) = if bes A k &&& M = 0 then on A M else 0 := by
  have h8 : M < 256 := Nat.lt_of_lt_of_le hM (Nat.pow_le_pow_right (show 0 < 2 by decide) (show k ≤ 8 by omega))
  have la : bes A k &&& M < 256 := Nat.and_lt_two_pow (n := 8) _ h8
  have e := in_add (A := A) (l := k) w h8 (lt_tb hM (Nat.le_refl k))
  unfold on
  rw [ad_or hM, e]
  have pz : pcN (bes A k &&& M) = 0 ↔ bes A k &&& M = 0 := by
    have : ∀ x, x < 256 → (pcN x = 0 ↔ x = 0) := by decide +kernel
    exact this _ la
  by_cases c : bes A k &&& M = 0
  · rw [if_pos c, pz.mpr c]
    simp only [Nat.add_zero]
  · rw [if_neg c, if_neg (fun h => c (pz.mp (by omega)))]
theorem pr_c {A M M' : Nat → Nat} : ∀ n, (∀ t, t < n → M' t = M t) → pr A M' n = pr A M n
  | 0, _ => rfl
  | n + 1, h => by rw [pr, pr, pr_c n (fun t ht => h t (by omega)), h n (by omega)]
theorem pr_u {A M : Nat → Nat} {h v : Nat} : ∀ n, h < n → ∃ q, pr A M n = q * on A (M h) ∧ pr A (upA M h v) n = q * on A v
  | 0, hh => by omega
  | n + 1, hh => by
    by_cases e : h = n
    · subst e
      refine ⟨pr A M h, rfl, ?_⟩
      rw [pr, pr_c h (fun t ht => upA_n (by omega)), upA_s]
    · obtain ⟨q, h1, h2⟩ := pr_u (A := A) (M := M) (h := h) (v := v) n (by omega)
      refine ⟨q * on A (M n), ?_, ?_⟩
      · rw [pr, h1, Nat.mul_assoc, Nat.mul_assoc, Nat.mul_comm (on A (M h))]
      · rw [pr, h2, upA_n (by omega), Nat.mul_assoc, Nat.mul_assoc, Nat.mul_comm (on A v)]
/-- what houses below k are of which colour -/
def mk (r : Nat → Nat) (t : Nat) : Nat → Nat
  | 0 => 0
  | k + 1 => mk r t k + (if r k = t then 2 ^ k else 0)
theorem mk_lt {r : Nat → Nat} {t : Nat} : ∀ k, mk r t k < 2 ^ k
  | 0 => by rw [mk]; decide
  | k + 1 => by
    have := mk_lt (r := r) (t := t) k
    rw [mk, Nat.pow_succ]
    split <;> omega
theorem mk_c {r r' : Nat → Nat} {t : Nat} : ∀ k, (∀ i, i < k → r' i = r i) → mk r' t k = mk r t k
  | 0, _ => rfl
  | k + 1, h => by rw [mk, mk, mk_c k (fun i hi => h i (by omega)), h k (by omega)]
theorem mk_u {r : Nat → Nat} {t k h : Nat} : mk (upA r k h) t (k + 1) = mk r t k + (if h = t then 2 ^ k else 0) := by
  rw [mk, mk_c k (fun i hi => upA_n (by omega)), upA_s]
theorem mk_b {r : Nat → Nat} {t i : Nat} : ∀ k, (mk r t k).testBit i = (decide (i < k) && decide (r i = t))
  | 0 => by rw [mk, Nat.zero_testBit]; rfl
  | k + 1 => by
    have hl := mk_lt (r := r) (t := t) k
    rw [mk]
    by_cases c : r k = t
    · rw [if_pos c, ad_or hl, Nat.testBit_or, Nat.testBit_two_pow, mk_b k]
      by_cases e : k = i
      · subst e
        rw [decide_eq_true rfl, Bool.or_true, decide_eq_true c, decide_eq_true (by omega)]
        rfl
      · rw [decide_eq_false e, Bool.or_false, show decide (i < k + 1) = decide (i < k) from decide_eq_decide.mpr (by omega)]
    · rw [if_neg c]
      show (mk r t k).testBit i = _
      rw [mk_b k]
      by_cases e : i = k
      · subst e
        rw [decide_eq_false c, Bool.and_false, Bool.and_false]
      · rw [show decide (i < k + 1) = decide (i < k) from decide_eq_decide.mpr (by omega)]
theorem un_mk {A r : Nat → Nat} {k h : Nat} : ∀ j, unC A r k h j = true ↔ ∀ g, g < j → ¬ ((bes A k).testBit g = true ∧ r g = h)
  | 0 => ⟨fun _ g hg => by omega, fun _ => rfl⟩
  | j + 1 => by
    rw [unC, Bool.and_eq_true, un_mk j, Bool.not_eq_true', Bool.and_eq_false_iff, decide_eq_false_iff_not, decide_eq_false_iff_not, tb_iff]
    constructor
    · rintro ⟨h1, h2⟩ g hg ⟨h3, h4⟩
      by_cases e : g = j
      · subst e
        rcases h2 with h2 | h2
        · exact h2 h3
        · exact h2 h4
      · exact h1 g (by omega) ⟨h3, h4⟩
    · intro h1
      refine ⟨fun g hg => h1 g (by omega), ?_⟩
      by_cases c : (bes A k).testBit j = true
      · exact Or.inr (fun e => h1 j (by omega) ⟨c, e⟩)
      · exact Or.inl c
theorem ok_mk {A r : Nat → Nat} {k h : Nat} : okC A k r h ↔ bes A k &&& mk r h k = 0 := by
  show unC A r k h k = true ↔ _
  rw [un_mk]
  constructor
  · intro h1
    apply tb_eq0
    intro i
    cases c : (bes A k &&& mk r h k).testBit i
    · rfl
    · rw [Nat.testBit_and, mk_b, Bool.and_eq_true, Bool.and_eq_true, decide_eq_true_eq, decide_eq_true_eq] at c
      exact absurd ⟨c.1, c.2.2⟩ (h1 i c.2.1)
  · rintro h1 g hg ⟨h2, h3⟩
    have : (bes A k &&& mk r h k).testBit g = true := by
      rw [Nat.testBit_and, mk_b, h2, decide_eq_true hg, decide_eq_true h3]
      rfl
    rw [h1, Nat.zero_testBit] at this
    cases this
theorem fs_z {A : Nat → Nat} {n : Nat} (w : Wf A) : ∀ (m k : Nat) (M : Nat → Nat), k + m = 8 → (∀ t, t < n → M t < 2 ^ k) → pr A M n = 0 → fs A n m k M = 0
  | 0, k, M, _, _, h => h
  | m + 1, k, M, hk, hM, h => by
    rw [fs]
    refine (sm_c (g := fun _ => 0) n (fun j hj => fs_z w m (k + 1) _ (by omega) (fun t ht => ?_) ?_)).trans (sm_0 n)
    · by_cases e : t = j
      · rw [upA_e e, Nat.pow_succ]
        have := hM j hj
        omega
      · rw [upA_n e, Nat.pow_succ]
        have := hM t ht
        omega
    · obtain ⟨q, h1, h2⟩ := pr_u (A := A) (M := M) (v := M j + 2 ^ k) n hj
      rw [h2, on_add w (by omega) (hM j hj)]
      rw [h1] at h
      split
      · exact h
      · exact Nat.mul_zero q
theorem rc_fs {A : Nat → Nat} {n : Nat} (w : Wf A) : ∀ (m k : Nat) (r M : Nat → Nat), k + m = 8 → (∀ t, t < n → M t = mk r t k) → pr A M n = 1 → rc n (okC A) m k r = fs A n m k M
  | 0, k, r, M, _, _, h => h.symm
  | m + 1, k, r, M, hk, hM, h => by
    have hlt : ∀ t, t < n → M t < 2 ^ k := fun t ht => by rw [hM t ht]; exact mk_lt k
    rw [rc, fs]
    apply sm_c
    intro j hj
    obtain ⟨q, h1, h2⟩ := pr_u (A := A) (M := M) (v := M j + 2 ^ k) n hj
    rw [on_add w (by omega) (hlt j hj)] at h2
    have hM' : ∀ t, t < n → upA M j (M j + 2 ^ k) t = mk (upA r k j) t (k + 1) := fun t ht => by
      rw [mk_u]
      by_cases e : j = t
      · rw [upA_e e.symm, if_pos e, hM j hj, e]
      · have := hM t ht
        rw [upA_n (fun e' => e e'.symm), if_neg e]
        omega
    by_cases c : okC A k r j
    · rw [if_pos c]
      have c2 := ok_mk.mp c
      rw [← hM j hj] at c2
      rw [if_pos c2, ← h1, h] at h2
      exact rc_fs w m (k + 1) _ _ (by omega) hM' h2
    · rw [if_neg c]
      have c2 : ¬ bes A k &&& M j = 0 := fun e => c (ok_mk.mpr (by rw [← hM j hj]; exact e))
      rw [if_neg c2, Nat.mul_zero] at h2
      exact (fs_z w m (k + 1) _ (by omega) (fun t ht => by
        rw [hM' t ht]
        exact mk_lt (k + 1)) h2).symm
theorem on_0 {A : Nat → Nat} : on A 0 = 1 := if_pos in_0
theorem pr_0 {A : Nat → Nat} : ∀ n, pr A (fun _ => 0) n = 1
  | 0 => rfl
  | n + 1 => by rw [pr, pr_0 n, on_0]
theorem cl_fs {A : Nat → Nat} {n : Nat} {F : Nat → Int32} (w : Wf A) : (clA A n F).1 = fs A n 8 0 (fun _ => 0) := by
  unfold clA
  rw [bt_rc, Nat.zero_add]
  exact rc_fs w 8 0 _ _ rfl (fun t ht => rfl) (pr_0 n)
