/-! rows of a determinant: one changed, one added to others -/
def sR (r : Nat → Nat → Int) (p : Nat) (u : Nat → Int) (i : Nat) : Nat → Int := if i = p then u else r i
theorem sR_s {r : Nat → Nat → Int} {p : Nat} {u : Nat → Int} : sR r p u p = u := if_pos rfl
theorem sR_n {r : Nat → Nat → Int} {p i : Nat} {u : Nat → Int} (h : i ≠ p) : sR r p u i = r i := if_neg h
theorem pf_c {r r' : Nat → Nat → Int} : ∀ (k : Nat) (w : Nat → Int), (∀ i, i < k → ∀ c, c < 7 → r i c = r' i c) → pf r k w = pf r' k w
  | 0, _, _ => rfl
  | k + 1, w, h => by
    rw [pf, pf, Wd_c (h k (by omega))]
    exact pf_c k _ (fun i hi => h i (by omega))
theorem pf_set {r : Nat → Nat → Int} {p : Nat} {a b : Int} {u v : Nat → Int} : ∀ (k : Nat) (w : Nat → Int), p < k → pf (sR r p (fun c => a * u c + b * v c)) k w = fun S => a * pf (sR r p u) k w S + b * pf (sR r p v) k w S
  | 0, _, h => by omega
  | k + 1, w, h => by
    by_cases c : p = k
    · subst c
      have e : ∀ x w', pf (sR r p x) p w' = pf r p w' := fun x w' => pf_c p w' (fun i hi c _ => by rw [sR_n (by omega)])
      rw [pf, pf, pf, sR_s, sR_s, sR_s, e, e, e]
      have e1 : Wd (fun c => a * u c + b * v c) w = fun S => a * Wd u w S + b * Wd v w S := funext fun S => Wd_lin
      rw [e1, pf_lin]
    · rw [pf, pf, pf, sR_n (by omega), sR_n (by omega), sR_n (by omega)]
      exact pf_set k _ (by omega)
theorem pf_dup' {r : Nat → Nat → Int} {p q : Nat} (hpq : p < q) (he : r p = r q) : ∀ (k : Nat) (w : Nat → Int), q < k → pf r k w = fun _ => 0
  | 0, _, h => by omega
  | k + 1, w, h => by
    by_cases c : q = k
    · rw [pf, ← c, ← he]
      exact pf_dup q w hpq
    · rw [pf]
      exact pf_dup' hpq he k _ (by omega)
theorem pf_dup2 {r : Nat → Nat → Int} {p q k : Nat} {w : Nat → Int} (hpq : p ≠ q) (hp : p < k) (hq : q < k) (he : r p = r q) : pf r k w = fun _ => 0 := by
  by_cases c : p < q
  · exact pf_dup' c he k w hq
  · exact pf_dup' (show q < p by omega) he.symm k w hp
theorem sR_id {r : Nat → Nat → Int} {p : Nat} : sR r p (r p) = r := by
  funext i
  by_cases c : i = p
  · rw [c, sR_s]
  · rw [sR_n c]
/-- one row with another added -/
theorem pf_op {r : Nat → Nat → Int} {p q k : Nat} {a : Int} {w : Nat → Int} (hpq : p ≠ q) (hp : p < k) (hq : q < k) : pf (sR r p (fun c => 1 * r p c + a * r q c)) k w = pf r k w := by
  rw [pf_set k w hp, sR_id, pf_dup2 (r := sR r p (r q)) (p := p) (q := q) hpq hp hq (by rw [sR_s, sR_n (fun h => hpq h.symm)])]
  funext S
  show 1 * pf r k w S + a * 0 = _
  rw [Int.mul_zero]
  omega
/-- one row added to all others -/
theorem pf_all {T R : Nat → Nat → Int} {p k : Nat} {a : Nat → Int} {w : Nat → Int} (hp : p < k) (h0 : ∀ c, c < 7 → R p c = T p c) (h : ∀ i, i < k → i ≠ p → ∀ c, c < 7 → R i c = T i c + a i * T p c) : pf R k w = pf T k w := by
  have key : ∀ n, n ≤ k → pf (fun i c => if i < n ∧ i ≠ p then T i c + a i * T p c else T i c) k w = pf T k w := by
    intro n
    induction n with
    | zero =>
      intro _
      exact pf_c k w (fun i _ c _ => if_neg (by omega))
    | succ n ih =>
      intro hn
      rw [← ih (by omega)]
      by_cases c : n = p
      · refine pf_c k w (fun i _ c' _ => ?_)
        by_cases c1 : i < n ∧ i ≠ p
        · rw [if_pos c1, if_pos ⟨by omega, c1.2⟩]
        · rw [if_neg c1, if_neg (by omega)]
      · rw [← pf_op (r := fun i c => if i < n ∧ i ≠ p then T i c + a i * T p c else T i c) (a := a n) (p := n) (q := p) c (by omega) hp]
        refine pf_c k w (fun i _ c' _ => ?_)
        by_cases c1 : i = n
        · subst c1
          rw [sR_s]
          show (if i < i + 1 ∧ i ≠ p then T i c' + a i * T p c' else T i c') = 1 * (if i < i ∧ i ≠ p then T i c' + a i * T p c' else T i c') + a i * (if p < i ∧ p ≠ p then T p c' + a p * T p c' else T p c')
          rw [if_pos ⟨by omega, c⟩, if_neg (by omega), if_neg (by omega), Int.one_mul]
        · rw [sR_n c1]
          by_cases c2 : i < n ∧ i ≠ p
          · rw [if_pos c2, if_pos ⟨by omega, c2.2⟩]
          · rw [if_neg c2, if_neg (by omega)]
  rw [← key k (Nat.le_refl _)]
  refine pf_c k w (fun i hi c hc => ?_)
  by_cases c1 : i = p
  · rw [if_neg (by omega), c1, h0 c hc]
  · rw [if_pos ⟨hi, c1⟩, h i hi c1 c hc]
/-- a row of noughts -/
theorem pf_z {r : Nat → Nat → Int} {p k : Nat} {w : Nat → Int} (hp : p < k) (h : ∀ c, c < 7 → r p c = 0) : pf r k w = fun _ => 0 := by
  have e : pf r k w = pf (sR r p (fun c => 0 * r p c + 0 * r p c)) k w := pf_c k w (fun i _ c hc => by
    by_cases c1 : i = p
    · rw [c1, sR_s, h c hc]
      rfl
    · rw [sR_n c1])
  rw [e, pf_set k w hp]
  funext S
  omega
/-- rows of a triangle -/
theorem dk_s {r : Nat → Nat → Int} {k : Nat} (hk : k < 7) (z : ∀ c, c < k → r k c = 0) : dk r (k + 1) = r k k * dk r k := by
  have e := pf_dlt (r := r) (u := r k) (Nat.le_refl k) hk z
  rw [mk_s k hk, sg_kk k hk, Int.one_mul] at e
  exact e
theorem dk_1 {r : Nat → Nat → Int} (h : ∀ i, i < 7 → ∀ c, c < 7 → r i c = if i = c then 1 else 0) : ∀ k, k ≤ 7 → dk r k = 1
  | 0, _ => rfl
  | k + 1, hk => by
    rw [dk_s (by omega) (fun c hc => by rw [h k (by omega) c (by omega), if_neg (by omega)]), dk_1 h k (by omega), h k (by omega) k (by omega), if_pos rfl]
    rfl
