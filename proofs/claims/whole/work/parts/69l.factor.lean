/-! sets of roads: what is chosen inside and what is left -/
def pcR (X : Nat) : Nat → Nat → Nat
  | 0, _ => 0
  | m + 1, k => (if X.testBit k = true then 1 else 0) + pcR X m (k + 1)
theorem b1_zero {f : Nat → Nat} {m k P : Nat} (h : ∀ q, q < 2 ^ m → f (P + 2 ^ k * q) = 0) : b1 f m k P = 0 := (b1_c (g := fun _ => 0) h).trans b1_z
theorem sub_or {P X k : Nat} (hP : P < 2 ^ k) (h : P &&& X = P) (hx : X.testBit k = true) : (P + 2 ^ k) &&& X = P + 2 ^ k := by
  rw [ad_or hP]
  apply Nat.eq_of_testBit_eq
  intro i
  have hi : (P &&& X).testBit i = P.testBit i := by rw [h]
  rw [Nat.testBit_and] at hi
  rw [Nat.testBit_and, orb8]
  by_cases e : k = i
  · subst e
    rw [decide_eq_true rfl, Bool.or_true, hx]
    rfl
  · rw [decide_eq_false e, Bool.or_false]
    exact hi
theorem and_bit {a b X : Nat} (h : a &&& X = b &&& X) (i : Nat) : (a.testBit i && X.testBit i) = (b.testBit i && X.testBit i) := by
  have := congrArg (fun x => x.testBit i) h
  simpa only [Nat.testBit_and] using this
theorem fa {X X1 X2 : Nat} {f : Nat → Nat} (hX : ∀ i, X.testBit i = (X1.testBit i || X2.testBit i)) (hd : ∀ i, X1.testBit i = true → X2.testBit i = false) (hf : ∀ R R', R &&& X1 = R' &&& X1 → f R = f R') : ∀ (m k P P' : Nat), P < 2 ^ k → P' < 2 ^ k → P &&& X = P → P' &&& X1 = P' → P &&& X1 = P' &&& X1 → b1 (fun R => if R &&& X = R then f R else 0) m k P = b1 (fun R => if R &&& X1 = R then f R else 0) m k P' * 2 ^ pcR X2 m k
  | 0, k, P, P', _, _, h1, h2, h3 => by
    rw [b1, b1, if_pos h1, if_pos h2, hf P P' h3, pcR, Nat.pow_zero, Nat.mul_one]
  | m + 1, k, P, P', l1, l2, h1, h2, h3 => by
    have p2 : 2 ^ (k + 1) = 2 ^ k + 2 ^ k := by rw [Nat.pow_succ]; omega
    have zX : X.testBit k = false → b1 (fun R => if R &&& X = R then f R else 0) m (k + 1) (P + 2 ^ k) = 0 := fun hx => b1_zero (fun q hq => if_neg (by
      rw [up_t]
      exact nsub (dk_t l1) hx))
    have z1 : X1.testBit k = false → b1 (fun R => if R &&& X1 = R then f R else 0) m (k + 1) (P' + 2 ^ k) = 0 := fun hx => b1_zero (fun q hq => if_neg (by
      rw [up_t]
      exact nsub (dk_t l2) hx))
    have ihs := fa hX hd hf m (k + 1) P P' (by omega) (by omega) h1 h2 h3
    rw [b1, b1, pcR]
    cases c1 : X1.testBit k
    · cases c2 : X2.testBit k
      · rw [zX (by rw [hX, c1, c2]; rfl), z1 c1, if_neg (by decide), Nat.zero_add, Nat.zero_add, Nat.zero_add]
        exact ihs
      · have hx : X.testBit k = true := by rw [hX, c2, Bool.or_true]
        have h4 : (P + 2 ^ k) &&& X1 = P' &&& X1 := by
          apply Nat.eq_of_testBit_eq
          intro i
          rw [Nat.testBit_and, Nat.testBit_and, ad_or l1, orb8]
          by_cases e : k = i
          · subst e
            rw [c1, Bool.and_false, Bool.and_false]
          · rw [decide_eq_false e, Bool.or_false]
            exact and_bit h3 i
        rw [z1 c1, if_pos rfl, Nat.zero_add, fa hX hd hf m (k + 1) (P + 2 ^ k) P' (by omega) (by omega) (sub_or l1 h1 hx) h2 h4, ihs, Nat.pow_add, Nat.pow_one, ← Nat.mul_assoc, Nat.mul_right_comm, Nat.mul_two]
    · have c2 := hd k c1
      have hx : X.testBit k = true := by rw [hX, c1, Bool.true_or]
      have h4 : (P + 2 ^ k) &&& X1 = (P' + 2 ^ k) &&& X1 := by
        apply Nat.eq_of_testBit_eq
        intro i
        rw [Nat.testBit_and, Nat.testBit_and, ad_or l1, ad_or l2, orb8, orb8]
        by_cases e : k = i
        · rw [decide_eq_true e, Bool.or_true, Bool.or_true]
        · rw [decide_eq_false e, Bool.or_false, Bool.or_false]
          exact and_bit h3 i
      rw [c2, if_neg (by decide), Nat.zero_add, fa hX hd hf m (k + 1) (P + 2 ^ k) (P' + 2 ^ k) (by omega) (by omega) (sub_or l1 h1 hx) (sub_or l2 h2 c1) h4, ihs, Nat.add_mul]
/-- roads inside a set -/
def eMN (A : Nat → Nat) (S : Nat) : Nat → Nat
  | 0 => 0
  | j + 1 => eMN A S j + (if S.testBit (A (40 + 2 * j)) = true ∧ S.testBit (A (40 + 2 * j + 1)) = true then 2 ^ j else 0)
def eM (A : Nat → Nat) (S : Nat) : Nat := eMN A S (A 0)
theorem eM_lt {A : Nat → Nat} {S : Nat} : ∀ n, eMN A S n < 2 ^ n
  | 0 => by rw [eMN]; decide
  | n + 1 => by
    have := eM_lt (A := A) (S := S) n
    rw [eMN, Nat.pow_succ]
    split <;> omega
theorem eM_b {A : Nat → Nat} {S i : Nat} : ∀ n, (eMN A S n).testBit i = true ↔ i < n ∧ S.testBit (A (40 + 2 * i)) = true ∧ S.testBit (A (40 + 2 * i + 1)) = true
  | 0 => by
    rw [eMN, Nat.zero_testBit]
    constructor
    · intro h; cases h
    · rintro ⟨h, -⟩; omega
  | n + 1 => by
    have hl := eM_lt (A := A) (S := S) n
    rw [eMN]
    by_cases c : S.testBit (A (40 + 2 * n)) = true ∧ S.testBit (A (40 + 2 * n + 1)) = true
    · rw [if_pos c, ad_or hl, orb8, Bool.or_eq_true, eM_b n, decide_eq_true_eq]
      constructor
      · rintro (h | rfl)
        · exact ⟨by omega, h.2⟩
        · exact ⟨by omega, c⟩
      · rintro ⟨h1, h2⟩
        by_cases e : n = i
        · exact Or.inr e
        · exact Or.inl ⟨by omega, h2⟩
    · rw [if_neg c]
      show (eMN A S n).testBit i = true ↔ _
      rw [eM_b n]
      constructor
      · rintro ⟨h1, h2⟩
        exact ⟨by omega, h2⟩
      · rintro ⟨h1, h2⟩
        by_cases e : i = n
        · subst e
          exact absurd h2 c
        · exact ⟨by omega, h2⟩
theorem pc_eM {A : Nat → Nat} {S : Nat} : pcR (eM A S) (A 0) 0 = inR' A S := by
  have key : ∀ m k, k + m = A 0 → pcR (eM A S) m k + sm (rdI A S) k = inR' A S := by
    intro m
    induction m with
    | zero =>
      intro k hk
      rw [pcR, Nat.zero_add, show k = A 0 by omega]
      rfl
    | succ m ih =>
      intro k hk
      rw [pcR, ← ih (k + 1) (by omega), sm]
      unfold rdI
      have := eM_b (A := A) (S := S) (i := k) (A 0)
      by_cases c : (eM A S).testBit k = true
      · have c2 := (this.mp c).2
        rw [if_pos c, if_pos c2]
        omega
      · have c2 : ¬ (S.testBit (A (40 + 2 * k)) = true ∧ S.testBit (A (40 + 2 * k + 1)) = true) := fun h => c (this.mpr ⟨by omega, h⟩)
        rw [if_neg c, if_neg c2]
        omega
  have := key (A 0) 0 (by omega)
  exact this
def NN (A : Nat → Nat) (a S T : Nat) : Nat := sm (fun R => if R &&& eM A S = R ∧ comp A a R = T then 1 else 0) (2 ^ A 0)
theorem b1_m {f : Nat → Nat} {m : Nat} : b1 f m 0 0 = sm f (2 ^ m) := by
  rw [b1_sm]
  apply sm_c
  intro q _
  congr 1
  rw [Nat.pow_zero]
  omega
theorem all_R {A : Nat → Nat} {S : Nat} : sm (fun R => if R &&& eM A S = R then 1 else 0) (2 ^ A 0) = 2 ^ inR' A S := by
  have h := fa (X := eM A S) (X1 := 0) (X2 := eM A S) (f := fun _ => 1) (fun i => by rw [Nat.zero_testBit, Bool.false_or]) (fun i h => by rw [Nat.zero_testBit] at h; cases h) (fun _ _ _ => rfl) (A 0) 0 0 0 (by decide) (by decide) (Nat.zero_and _) (Nat.zero_and _) rfl
  rw [b1_m, b1_m, pc_eM] at h
  rw [h]
  have e : sm (fun R => if R &&& 0 = R then 1 else 0) (2 ^ A 0) = 1 := by
    have e2 : sm (fun R => if R &&& 0 = R then 1 else 0) (2 ^ A 0) = sm (fun R => if R = 0 then 1 else 0) (2 ^ A 0) := sm_c _ (fun R _ => by
      rw [Nat.and_zero]
      by_cases c : R = 0
      · rw [if_pos c, if_pos c.symm]
      · rw [if_neg c, if_neg (fun e => c e.symm)])
    rw [e2, sm_one, if_pos (Nat.two_pow_pos _)]
  rw [e, Nat.one_mul]
theorem R_bit {A : Nat → Nat} {S R j : Nat} (h : R &&& eM A S = R) (hj : R.testBit j = true) : j < A 0 ∧ S.testBit (A (40 + 2 * j)) = true ∧ S.testBit (A (40 + 2 * j + 1)) = true := by
  have : (R &&& eM A S).testBit j = true := by rw [h]; exact hj
  rw [Nat.testBit_and, Bool.and_eq_true] at this
  exact (eM_b (A := A) (S := S) (A 0)).mp this.2
theorem comp_S {A : Nat → Nat} {a S R : Nat} (h : R &&& eM A S = R) (ha : S.testBit a = true) : ∀ i, (comp A a R).testBit i = true → S.testBit i = true := cm_in (fun k hk hR _ => (R_bit h hR).2) ha 8
theorem comp_a {A : Nat → Nat} {a R : Nat} : (comp A a R).testBit a = true := cm_a 8
/-- the roads inside S by which the part of a is T -/
theorem NN_eq {A : Nat → Nat} {a S T : Nat} (w : Wf A) (ha : a < 8) (hS : S < 256) (hT : T &&& S = T) (hTa : T.testBit a = true) (hst : ∀ i, (S - T).testBit i = (S.testBit i && !T.testBit i)) : NN A a S T = NN A a T T * 2 ^ inR' A (S - T) := by
  have tS : ∀ i, T.testBit i = true → S.testBit i = true := fun i hi => by
    have : (T &&& S).testBit i = true := by rw [hT]; exact hi
    rw [Nat.testBit_and, Bool.and_eq_true] at this
    exact this.2
  have hX1 : ∀ i, (eM A T).testBit i = true ↔ i < A 0 ∧ T.testBit (A (40 + 2 * i)) = true ∧ T.testBit (A (40 + 2 * i + 1)) = true := fun i => eM_b (A 0)
  have hX2 : ∀ i, (eM A (S - T)).testBit i = true ↔ i < A 0 ∧ (S - T).testBit (A (40 + 2 * i)) = true ∧ (S - T).testBit (A (40 + 2 * i + 1)) = true := fun i => eM_b (A 0)
  obtain ⟨X, eX⟩ : ∃ X, X = eM A T ||| eM A (S - T) := ⟨_, rfl⟩
  obtain ⟨f, ef⟩ : ∃ f : Nat → Nat, f = fun R => if comp A a (R &&& eM A T) = T then 1 else 0 := ⟨_, rfl⟩
  have h := fa (X := X) (X1 := eM A T) (X2 := eM A (S - T)) (f := f) (fun i => by rw [eX, Nat.testBit_or]) (fun i hi => by
    cases c : (eM A (S - T)).testBit i
    · rfl
    · have h1 := (hX1 i).mp hi
      have h2 := (hX2 i).mp c
      have := h2.2.1
      rw [hst, h1.2.1] at this
      simp at this) (fun R R' e => by rw [ef]; show (if comp A a (R &&& eM A T) = T then 1 else 0) = (if comp A a (R' &&& eM A T) = T then 1 else 0); rw [e]) (A 0) 0 0 0 (by decide) (by decide) (Nat.zero_and _) (Nat.zero_and _) rfl
  rw [b1_m, b1_m, pc_eM] at h
  have e1 : NN A a S T = sm (fun R => if R &&& X = R then f R else 0) (2 ^ A 0) := sm_c _ (fun R hR => by
    rw [ef]
    show (if R &&& eM A S = R ∧ comp A a R = T then 1 else 0) = (if R &&& X = R then (if comp A a (R &&& eM A T) = T then 1 else 0) else 0)
    have key : (R &&& eM A S = R ∧ comp A a R = T) ↔ (R &&& X = R ∧ comp A a (R &&& eM A T) = T) := by
      constructor
      · rintro ⟨h1, h2⟩
        have cl := comp_c (R := R) w ha
        rw [h2] at cl
        have nc : ∀ j, R.testBit j = true → (T.testBit (A (40 + 2 * j)) = true ∧ T.testBit (A (40 + 2 * j + 1)) = true) ∨ (T.testBit (A (40 + 2 * j)) = false ∧ T.testBit (A (40 + 2 * j + 1)) = false) := by
          intro j hj
          have hb := R_bit h1 hj
          cases c1 : T.testBit (A (40 + 2 * j))
          · cases c2 : T.testBit (A (40 + 2 * j + 1))
            · exact Or.inr ⟨rfl, rfl⟩
            · have := (cl j hb.1 hj (Or.inr c2)).1
              rw [c1] at this
              cases this
          · exact Or.inl ⟨rfl, (cl j hb.1 hj (Or.inl c1)).2⟩
        have hRX : R &&& X = R := by
          apply Nat.eq_of_testBit_eq
          intro j
          rw [Nat.testBit_and]
          cases c : R.testBit j
          · rfl
          · have hb := R_bit h1 c
            rw [Bool.true_and, eX, Nat.testBit_or]
            rcases nc j c with ⟨n1, n2⟩ | ⟨n1, n2⟩
            · rw [(hX1 j).mpr ⟨hb.1, n1, n2⟩, Bool.true_or]
            · rw [(hX2 j).mpr ⟨hb.1, by rw [hst, hb.2.1, n1]; rfl, by rw [hst, hb.2.2, n2]; rfl⟩, Bool.or_true]
        refine ⟨hRX, ?_⟩
        apply Nat.eq_of_testBit_eq
        intro i
        have hsub : ∀ i, (comp A a (R &&& eM A T)).testBit i = true → T.testBit i = true := comp_S (by rw [Nat.and_assoc, Nat.and_self]) hTa
        have hZ : Cls A R (comp A a (R &&& eM A T)) := by
          intro k hk hRk hor
          have c2 := comp_c (R := R &&& eM A T) w ha
          refine c2 k hk ?_ hor
          rw [Nat.testBit_and, hRk, Bool.true_and]
          refine (hX1 k).mpr ⟨hk, ?_⟩
          rcases nc k hRk with hn | ⟨n1, n2⟩
          · exact hn
          · rcases hor with ho | ho
            · have := hsub _ ho
              rw [n1] at this
              cases this
            · have := hsub _ ho
              rw [n2] at this
              cases this
        have hsup : ∀ i, (comp A a R).testBit i = true → (comp A a (R &&& eM A T)).testBit i = true := cm_in hZ comp_a 8
        rw [h2] at hsup
        cases c : T.testBit i
        · cases c2 : (comp A a (R &&& eM A T)).testBit i
          · rfl
          · rw [hsub i c2] at c
            cases c
        · exact hsup i c
      · rintro ⟨h1, h2⟩
        have inX : ∀ j, R.testBit j = true → (eM A T).testBit j = true ∨ (eM A (S - T)).testBit j = true := fun j hj => by
          have : (R &&& X).testBit j = true := by rw [h1]; exact hj
          rw [Nat.testBit_and, Bool.and_eq_true, eX, Nat.testBit_or, Bool.or_eq_true] at this
          exact this.2
        have st1 : ∀ i, (S - T).testBit i = true → S.testBit i = true ∧ T.testBit i = false := fun i hi => by
          rw [hst, Bool.and_eq_true, Bool.not_eq_true'] at hi
          exact hi
        refine ⟨?_, ?_⟩
        · apply Nat.eq_of_testBit_eq
          intro j
          rw [Nat.testBit_and]
          cases c : R.testBit j
          · rfl
          · rw [Bool.true_and]
            refine (eM_b (A := A) (S := S) (A 0)).mpr ?_
            rcases inX j c with hj | hj
            · have := (hX1 j).mp hj
              exact ⟨this.1, tS _ this.2.1, tS _ this.2.2⟩
            · have := (hX2 j).mp hj
              exact ⟨this.1, (st1 _ this.2.1).1, (st1 _ this.2.2).1⟩
        · have clT : Cls A R T := by
            intro k hk hRk hor
            rcases inX k hRk with hj | hj
            · exact ((hX1 k).mp hj).2
            · have := (hX2 k).mp hj
              rcases hor with ho | ho
              · rw [(st1 _ this.2.1).2] at ho
                cases ho
              · rw [(st1 _ this.2.2).2] at ho
                cases ho
          have s1 : ∀ i, (comp A a R).testBit i = true → T.testBit i = true := cm_in clT hTa 8
          have clR := comp_c (R := R) w ha
          have s2 : ∀ i, (comp A a (R &&& eM A T)).testBit i = true → (comp A a R).testBit i = true := cm_in (fun k hk hRk hor => clR k hk (by
            rw [Nat.testBit_and, Bool.and_eq_true] at hRk
            exact hRk.1) hor) comp_a 8
          rw [h2] at s2
          apply Nat.eq_of_testBit_eq
          intro i
          cases c : T.testBit i
          · cases c2 : (comp A a R).testBit i
            · rfl
            · rw [s1 i c2] at c
              cases c
          · exact s2 i c
    by_cases c : R &&& eM A S = R ∧ comp A a R = T
    · rw [if_pos c, if_pos (key.mp c).1, if_pos (key.mp c).2]
    · rw [if_neg c]
      by_cases c2 : R &&& X = R
      · rw [if_pos c2, if_neg (fun h => c (key.mpr ⟨c2, h⟩))]
      · rw [if_neg c2])
  have e2 : NN A a T T = sm (fun R => if R &&& eM A T = R then f R else 0) (2 ^ A 0) := sm_c _ (fun R hR => by
    rw [ef]
    show (if R &&& eM A T = R ∧ comp A a R = T then 1 else 0) = (if R &&& eM A T = R then (if comp A a (R &&& eM A T) = T then 1 else 0) else 0)
    by_cases c : R &&& eM A T = R
    · rw [if_pos c, c]
      by_cases c2 : comp A a R = T
      · rw [if_pos ⟨rfl, c2⟩, if_pos c2]
      · rw [if_neg (fun h => c2 h.2), if_neg c2]
    · rw [if_neg c, if_neg (fun h => c h.1)])
  rw [e1, h, e2]
