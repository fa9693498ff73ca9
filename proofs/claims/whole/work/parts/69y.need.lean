/-! guests into houses: house by house, and guest by guest -/
def mnG (f : Nat → Nat) (a : Nat) : Nat → Nat
  | 0 => a
  | n + 1 => if f n < mnG f a n then f n else mnG f a n
theorem mnG_le {f : Nat → Nat} {a v : Nat} : ∀ n, mnG f a n ≤ v ↔ a ≤ v ∨ ∃ i, i < n ∧ f i ≤ v
  | 0 => by
    rw [mnG]
    exact ⟨Or.inl, fun h => h.elim id (fun ⟨i, hi, _⟩ => by omega)⟩
  | n + 1 => by
    have ih := mnG_le (f := f) (a := a) (v := v) n
    rw [mnG]
    constructor
    · intro h
      by_cases c : f n < mnG f a n
      · rw [if_pos c] at h
        exact Or.inr ⟨n, by omega, h⟩
      · rw [if_neg c] at h
        rcases ih.mp h with h1 | ⟨i, hi, h1⟩
        · exact Or.inl h1
        · exact Or.inr ⟨i, by omega, h1⟩
    · intro h
      have h2 : mnG f a n ≤ v ∨ f n ≤ v := by
        rcases h with h1 | ⟨i, hi, h1⟩
        · exact Or.inl (ih.mpr (Or.inl h1))
        · by_cases e : i = n
          · subst e
            exact Or.inr h1
          · exact Or.inl (ih.mpr (Or.inr ⟨i, by omega, h1⟩))
      split <;> omega
theorem mnG_c {f f' : Nat → Nat} {a : Nat} : ∀ n, (∀ i, i < n → f i = f' i) → mnG f a n = mnG f' a n
  | 0, _ => rfl
  | n + 1, h => by rw [mnG, mnG, mnG_c n (fun i hi => h i (by omega)), h n (by omega)]
theorem le_ext {x y : Nat} (h : ∀ v, x ≤ v ↔ y ≤ v) : x = y := Nat.le_antisymm ((h y).mpr (Nat.le_refl y)) ((h x).mp (Nat.le_refl x))
theorem le_ext2 {x y b : Nat} (hx : x ≤ b) (hy : y ≤ b) (h : ∀ v, v < b → (x ≤ v ↔ y ≤ v)) : x = y := by
  by_cases c : x < b
  · have h1 := (h x c).mp (Nat.le_refl x)
    have h2 := (h y (by omega)).mpr (Nat.le_refl y)
    omega
  · by_cases c2 : y < b
    · have h2 := (h y c2).mpr (Nat.le_refl y)
      omega
    · omega
def szG (g : Nat → Nat) (P : Nat) : Nat := sm (fun j => if P.testBit j = true then g j else 0) 7
def prU (U h : Nat) : Nat := if U.testBit h = true then 0 else 1
/-- the guests S go into the houses before h, v of them new -/
def nd (g l : Nat → Nat) (U : Nat) : Nat → Nat → Nat → Prop
  | 0, S, _ => S = 0
  | h + 1, S, v => nd g l U h S v ∨ ∃ P, P &&& S = P ∧ P ≠ 0 ∧ szG g P ≤ l h ∧ prU U h ≤ v ∧ nd g l U h (S - P) (v - prU U h)
theorem nd_c {g l l' : Nat → Nat} {U U' : Nat} : ∀ h, (∀ i, i < h → l' i = l i ∧ U'.testBit i = U.testBit i) → ∀ S v, nd g l U h S v → nd g l' U' h S v
  | 0, _, _, _, h => h
  | h + 1, hc, S, v, hn => by
    have ih := nd_c (g := g) h (fun i hi => hc i (by omega))
    obtain ⟨e1, e2⟩ := hc h (by omega)
    have e3 : prU U' h = prU U h := by
      unfold prU
      rw [e2]
    rcases hn with hn | ⟨P, p1, p2, p3, p4, p5⟩
    · exact Or.inl (ih S v hn)
    · exact Or.inr ⟨P, p1, p2, by rw [e1]; exact p3, by rw [e3]; exact p4, by rw [e3]; exact ih _ _ p5⟩
theorem nd_0 {g l : Nat → Nat} {U v : Nat} : ∀ h, nd g l U h 0 v
  | 0 => rfl
  | h + 1 => Or.inl (nd_0 h)
theorem sz_add {g : Nat → Nat} {P k : Nat} (hk : k < 7) (h : P.testBit k = false) : szG g (P ||| 2 ^ k) = szG g P + g k := by
  unfold szG
  have e : sm (fun j => if (P ||| 2 ^ k).testBit j = true then g j else 0) 7 = sm (fun j => (if P.testBit j = true then g j else 0) + (if j = k then g k else 0)) 7 := sm_c 7 (fun j _ => by
    rw [Nat.testBit_or, Nat.testBit_two_pow]
    by_cases e : k = j
    · subst e
      rw [h, decide_eq_true rfl, Bool.or_true, if_pos rfl, if_neg ffN, if_pos rfl]
      omega
    · rw [decide_eq_false e, Bool.or_false, if_neg (fun q : j = k => e q.symm)]
      omega)
  rw [e, sm_add, sm_one, if_pos hk]
theorem sz_0 {g : Nat → Nat} : szG g 0 = 0 := (sm_c (g := fun _ => 0) 7 (fun j _ => by rw [Nat.zero_testBit, if_neg ffN])).trans (sm_0 7)
/-- a set with k in it, without k -/
theorem st_k {P k : Nat} (hP : P < 256) (c : P.testBit k = true) : ∃ P', P = P' ||| 2 ^ k ∧ P'.testBit k = false ∧ P' < 256 ∧ ∀ i, P'.testBit i = (P.testBit i && !decide (k = i)) := by
  have pb := sbt8 hP (p2_sub c)
  refine ⟨P - 2 ^ k, ?_, ?_, Nat.lt_of_le_of_lt (Nat.sub_le _ _) hP, fun i => ?_⟩
  · apply Nat.eq_of_testBit_eq
    intro i
    rw [Nat.testBit_or, pb i, Nat.testBit_two_pow]
    by_cases e : k = i
    · subst e
      rw [c, decide_eq_true rfl]
      rfl
    · rw [decide_eq_false e, Bool.not_false, Bool.and_true, Bool.or_false]
  · rw [pb k, Nat.testBit_two_pow, decide_eq_true rfl, Bool.not_true, Bool.and_false]
  · rw [pb i, Nat.testBit_two_pow]
theorem pr_n {U x h : Nat} (e : x ≠ h) : prU (U ||| 2 ^ x) h = prU U h := by
  unfold prU
  rw [Nat.testBit_or, Nat.testBit_two_pow, decide_eq_false e, Bool.or_false]
theorem pr_s {U h : Nat} : prU (U ||| 2 ^ h) h = 0 := by
  unfold prU
  rw [Nat.testBit_or, Nat.testBit_two_pow, decide_eq_true rfl, Bool.or_true, if_pos rfl]
theorem fr_x {l : Nat → Nat} {U x y h : Nat} (hx : h ≤ x) : ∀ i, i < h → upA l x y i = l i ∧ (U ||| 2 ^ x).testBit i = U.testBit i := fun i hi => ⟨upA_n (by omega), by rw [Nat.testBit_or, Nat.testBit_two_pow, decide_eq_false (show ¬ x = i by omega), Bool.or_false]⟩
theorem fr_y {l : Nat → Nat} {U x y h : Nat} (hx : h ≤ x) : ∀ i, i < h → l i = upA l x y i ∧ U.testBit i = (U ||| 2 ^ x).testBit i := fun i hi => ⟨(fr_x (l := l) (U := U) (y := y) hx i hi).1.symm, (fr_x (l := l) (U := U) (y := y) hx i hi).2.symm⟩
section Need
variable {g : Nat → Nat} {k : Nat}
theorem nd_x1 (hk : k < 7) {l : Nat → Nat} {U : Nat} : ∀ h S v, S < 256 → S.testBit k = false → nd g l U h (S ||| 2 ^ k) v → ∃ x, x < h ∧ g k ≤ l x ∧ prU U x ≤ v ∧ nd g (upA l x (l x - g k)) (U ||| 2 ^ x) h S (v - prU U x)
  | 0, S, v, hS, hb, hn => by
    have e : S ||| 2 ^ k = 0 := hn
    have e2 : (S ||| 2 ^ k).testBit k = true := by rw [Nat.testBit_or, Nat.testBit_two_pow, decide_eq_true rfl, Bool.or_true]
    rw [e, Nat.zero_testBit] at e2
    cases e2
  | h + 1, S, v, hS, hb, hn => by
    have ih := nd_x1 (l := l) (U := U) hk h
    have hT : S ||| 2 ^ k < 256 := Nat.or_lt_two_pow (n := 8) hS (p2_lt (by omega))
    rcases hn with hn | ⟨P, p1, p2, p3, p4, p5⟩
    · obtain ⟨x, hx, h1, h2, h3⟩ := ih S v hS hb hn
      exact ⟨x, by omega, h1, h2, Or.inl h3⟩
    · have pS := sub_i.mp p1
      have hP : P < 256 := by
        have := and_l p1
        omega
      by_cases c : P.testBit k = true
      · obtain ⟨P', e1, e2, e3, e4⟩ := st_k hP c
        have q1 : P' &&& S = P' := sub_i.mpr (fun i hi => by
          rw [e4 i, Bool.and_eq_true] at hi
          have := pS i hi.1
          rw [Nat.testBit_or, Nat.testBit_two_pow] at this
          cases cc : decide (k = i)
          · rw [cc, Bool.or_false] at this
            exact this
          · rw [cc] at hi
            exact absurd hi.2 ffN)
        have q2 : (S ||| 2 ^ k) - P = S - P' := by
          apply Nat.eq_of_testBit_eq
          intro i
          rw [sbt8 hT p1 i, sbt8 hS q1 i, e4 i, Nat.testBit_or, Nat.testBit_two_pow]
          by_cases e : k = i
          · subst e
            rw [hb, c, decide_eq_true rfl]
            rfl
          · rw [decide_eq_false e, Bool.or_false, Bool.not_false, Bool.and_true]
        have q3 : szG g P = szG g P' + g k := by rw [e1, sz_add hk e2]
        rw [q2] at p5
        refine ⟨h, by omega, by omega, p4, ?_⟩
        have p6 := nd_c h (fr_x (l := l) (U := U) (y := l h - g k) (Nat.le_refl h)) _ _ p5
        by_cases c0 : P' = 0
        · rw [c0, Nat.sub_zero] at p6
          exact Or.inl p6
        · refine Or.inr ⟨P', q1, c0, ?_, ?_, ?_⟩
          · rw [upA_s]
            omega
          · rw [pr_s]
            omega
          · rw [pr_s, Nat.sub_zero]
            exact p6
      · have q1 : P &&& S = P := sub_i.mpr (fun i hi => by
          have := pS i hi
          rw [Nat.testBit_or, Nat.testBit_two_pow] at this
          by_cases e : k = i
          · subst e
            exact absurd hi c
          · rw [decide_eq_false e, Bool.or_false] at this
            exact this)
        have q2 : (S ||| 2 ^ k) - P = (S - P) ||| 2 ^ k := by
          apply Nat.eq_of_testBit_eq
          intro i
          rw [sbt8 hT p1 i, Nat.testBit_or, Nat.testBit_or, sbt8 hS q1 i, Nat.testBit_two_pow]
          by_cases e : k = i
          · subst e
            rw [decide_eq_true rfl, Bool.or_true, Bool.or_true]
            cases cc : P.testBit k
            · rfl
            · exact absurd cc c
          · rw [decide_eq_false e, Bool.or_false, Bool.or_false]
        rw [q2] at p5
        obtain ⟨x, hx, h1, h2, h3⟩ := ih (S - P) _ (by omega) (by rw [sbt8 hS q1 k, hb, Bool.false_and]) p5
        refine ⟨x, by omega, h1, by omega, Or.inr ⟨P, q1, p2, ?_, ?_, ?_⟩⟩
        · rw [upA_n (by omega)]
          exact p3
        · rw [pr_n (by omega)]
          omega
        · rw [pr_n (by omega), show v - prU U x - prU U h = v - prU U h - prU U x by omega]
          exact h3
theorem nd_x2 (hk : k < 7) {l : Nat → Nat} {U : Nat} : ∀ h S v, S < 256 → S.testBit k = false → (∃ x, x < h ∧ g k ≤ l x ∧ prU U x ≤ v ∧ nd g (upA l x (l x - g k)) (U ||| 2 ^ x) h S (v - prU U x)) → nd g l U h (S ||| 2 ^ k) v
  | 0, S, v, hS, hb, ⟨x, hx, _⟩ => by omega
  | h + 1, S, v, hS, hb, ⟨x, hx, h1, h2, h3⟩ => by
    have ih := nd_x2 (l := l) (U := U) hk h
    have hT : S ||| 2 ^ k < 256 := Nat.or_lt_two_pow (n := 8) hS (p2_lt (by omega))
    by_cases e : x = h
    · subst e
      rcases h3 with h3 | ⟨P, p1, p2, p3, p4, p5⟩
      · have h4 := nd_c x (fr_y (l := l) (U := U) (y := l x - g k) (Nat.le_refl x)) _ _ h3
        have s1 : 2 ^ k &&& (S ||| 2 ^ k) = 2 ^ k := p2_sub (by rw [Nat.testBit_or, Nat.testBit_two_pow, decide_eq_true rfl, Bool.or_true])
        refine Or.inr ⟨2 ^ k, s1, ?_, ?_, h2, ?_⟩
        · have := Nat.two_pow_pos k
          omega
        · have := sz_add (g := g) (P := 0) hk (Nat.zero_testBit k)
          rw [Nat.zero_or, sz_0] at this
          omega
        · have e2 : (S ||| 2 ^ k) - 2 ^ k = S := by
            apply Nat.eq_of_testBit_eq
            intro i
            rw [sbt8 hT s1 i, Nat.testBit_or, Nat.testBit_two_pow]
            by_cases e : k = i
            · subst e
              rw [decide_eq_true rfl, hb]
              rfl
            · rw [decide_eq_false e, Bool.or_false, Bool.not_false, Bool.and_true]
          rw [e2]
          exact h4
      · have h4 := nd_c x (fr_y (l := l) (U := U) (y := l x - g k) (Nat.le_refl x)) _ _ p5
        have pS := sub_i.mp p1
        have hPk : P.testBit k = false := by
          cases cc : P.testBit k
          · rfl
          · have := pS k cc
            rw [hb] at this
            cases this
        have s1 : (P ||| 2 ^ k) &&& (S ||| 2 ^ k) = P ||| 2 ^ k := sub_i.mpr (fun i hi => by
          rw [Nat.testBit_or, Bool.or_eq_true] at hi ⊢
          rcases hi with hi | hi
          · exact Or.inl (pS i hi)
          · exact Or.inr hi)
        rw [upA_s] at p3
        rw [pr_s, Nat.sub_zero] at h4
        refine Or.inr ⟨P ||| 2 ^ k, s1, ?_, ?_, h2, ?_⟩
        · intro e0
          have e2 : (P ||| 2 ^ k).testBit k = true := by rw [Nat.testBit_or, Nat.testBit_two_pow, decide_eq_true rfl, Bool.or_true]
          rw [e0, Nat.zero_testBit] at e2
          cases e2
        · rw [sz_add hk hPk]
          omega
        · have e2 : (S ||| 2 ^ k) - (P ||| 2 ^ k) = S - P := by
            apply Nat.eq_of_testBit_eq
            intro i
            rw [sbt8 hT s1 i, sbt8 hS p1 i, Nat.testBit_or, Nat.testBit_or, Nat.testBit_two_pow]
            by_cases e : k = i
            · subst e
              rw [decide_eq_true rfl, hb, Bool.or_true, Bool.or_true]
              rfl
            · rw [decide_eq_false e, Bool.or_false, Bool.or_false]
          rw [e2]
          exact h4
    · rcases h3 with h3 | ⟨P, p1, p2, p3, p4, p5⟩
      · exact Or.inl (ih S v hS hb ⟨x, by omega, h1, h2, h3⟩)
      · rw [upA_n (by omega)] at p3
        rw [pr_n e] at p4 p5
        have pS := sub_i.mp p1
        have hPk : P.testBit k = false := by
          cases cc : P.testBit k
          · rfl
          · have := pS k cc
            rw [hb] at this
            cases this
        have s1 : P &&& (S ||| 2 ^ k) = P := sub_i.mpr (fun i hi => by
          rw [Nat.testBit_or, pS i hi, Bool.true_or])
        have q2 : (S ||| 2 ^ k) - P = (S - P) ||| 2 ^ k := by
          apply Nat.eq_of_testBit_eq
          intro i
          rw [sbt8 hT s1 i, Nat.testBit_or, Nat.testBit_or, sbt8 hS p1 i, Nat.testBit_two_pow]
          by_cases e : k = i
          · subst e
            rw [decide_eq_true rfl, Bool.or_true, Bool.or_true, hPk]
            rfl
          · rw [decide_eq_false e, Bool.or_false, Bool.or_false]
        have h4 := ih (S - P) (v - prU U h) (by omega) (by rw [sbt8 hS p1 k, hb, Bool.false_and]) ⟨x, by omega, h1, by omega, by
          rw [show v - prU U h - prU U x = v - prU U x - prU U h by omega]
          exact p5⟩
        refine Or.inr ⟨P, s1, p2, p3, by omega, ?_⟩
        rw [q2]
        exact h4
end Need
/-- the same as a number: 100 if there is no way -/
def nN (g l : Nat → Nat) (U : Nat) : Nat → Nat → Nat
  | 0, S => if S = 0 then 0 else 100
  | h + 1, S => mnG (fun P => if P &&& S = P ∧ P ≠ 0 ∧ szG g P ≤ l h then prU U h + nN g l U h (S - P) else 100) (nN g l U h S) 256
theorem nN_le {g l : Nat → Nat} {U : Nat} : ∀ h S, nN g l U h S ≤ 100
  | 0, S => by
    rw [nN]
    split <;> omega
  | h + 1, S => by
    rw [nN]
    exact (mnG_le 256).mpr (Or.inl (nN_le h S))
theorem nN_0 {g l : Nat → Nat} {U : Nat} : ∀ h, nN g l U h 0 = 0
  | 0 => if_pos rfl
  | h + 1 => by
    have : nN g l U (h + 1) 0 ≤ 0 := by
      rw [nN]
      exact (mnG_le 256).mpr (Or.inl (by rw [nN_0 h]; exact Nat.le_refl _))
    omega
theorem nN_nd {g l : Nat → Nat} {U : Nat} : ∀ h S v, S < 256 → v < 100 → (nN g l U h S ≤ v ↔ nd g l U h S v)
  | 0, S, v, hS, hv => by
    rw [nN, nd]
    split
    · next c => exact ⟨fun _ => c, fun _ => Nat.zero_le _⟩
    · next c => exact ⟨fun h => by omega, fun h => absurd h c⟩
  | h + 1, S, v, hS, hv => by
    rw [nN, mnG_le, nd, nN_nd h S v hS hv]
    constructor
    · rintro (h1 | ⟨P, hP, h1⟩)
      · exact Or.inl h1
      · by_cases c : P &&& S = P ∧ P ≠ 0 ∧ szG g P ≤ l h
        · rw [if_pos c] at h1
          exact Or.inr ⟨P, c.1, c.2.1, c.2.2, by omega, (nN_nd h (S - P) _ (by omega) (by omega)).mp (by omega)⟩
        · rw [if_neg c] at h1
          omega
    · rintro (h1 | ⟨P, p1, p2, p3, p4, p5⟩)
      · exact Or.inl h1
      · have := and_l p1
        have h2 := (nN_nd h (S - P) (v - prU U h) (by omega) (by omega)).mpr p5
        exact Or.inr ⟨P, by omega, by rw [if_pos ⟨p1, p2, p3⟩]; omega⟩
