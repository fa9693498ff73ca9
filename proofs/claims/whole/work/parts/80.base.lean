/-! the machine's lists; the locals and the cells of the real machine beside those of the machine of numbers -/
theorem ldL_lt : ∀ (ls : Lo) (i : Nat) (v : Value), ldL ls i = some v → i < ls.length
  | [], i, v, h => by simp [ldL] at h
  | o :: t, 0, v, h => by simp
  | o :: t, i + 1, v, h => by
    have := ldL_lt t i v (by simpa [ldL] using h)
    simp; omega
theorem stL_len : ∀ (ls : Lo) (i : Nat) (v : Value), (stL ls i v).length = ls.length
  | [], i, v => by simp [stL]
  | o :: t, 0, v => by
    simp only [stL]
    split
    · cases t <;> simp [clrL]
    · simp
  | o :: t, 1, v => by simp [stL, stL_len t 0 v]
  | o :: t, i + 2, v => by simp [stL, stL_len t (i + 1) v]
theorem clrL_ld : ∀ (t : Lo) (j : Nat) (w : Value), ldL (clrL t) j = some w → j ≠ 0 ∧ ldL t j = some w
  | [], j, w, h => by simp [clrL, ldL] at h
  | o :: t, 0, w, h => by simp [clrL, ldL] at h
  | o :: t, j + 1, w, h => ⟨by omega, by simpa [clrL, ldL] using h⟩
theorem c2_cat {o : Option Value} {w : Value} (h : o = some w) (h2 : c2L o = false) : ¬ w.category = 2 := by
  subst h
  cases w <;> simp_all [c2L, Value.category]
theorem stL_ld : ∀ (ls : Lo) (i : Nat) (x : Value) (j : Nat) (w : Value), ldL (stL ls i x) j = some w → (j = i ∧ w = x) ∨ (j ≠ i ∧ ldL ls j = some w ∧ ¬ (j + 1 = i ∧ w.category = 2) ∧ (x.category = 2 → j ≠ i + 1))
  | [], i, x, j, w, h => by simp [stL, ldL] at h
  | o :: t, 0, x, 0, w, h => by
    simp only [stL, ldL] at h
    exact Or.inl ⟨rfl, (Option.some.inj h).symm⟩
  | o :: t, 0, x, j + 1, w, h => by
    simp only [stL, ldL] at h
    refine Or.inr ⟨by omega, ?_, by omega, ?_⟩
    · split at h
      · simpa [ldL] using (clrL_ld t j w h).2
      · simpa [ldL] using h
    · intro hx
      rw [if_pos hx] at h
      have := (clrL_ld t j w h).1
      omega
  | o :: t, 1, x, 0, w, h => by
    simp only [stL, ldL] at h
    by_cases hc : c2L o = true
    · rw [if_pos hc] at h
      cases h
    · rw [if_neg hc] at h
      refine Or.inr ⟨by omega, by simpa [ldL] using h, fun q => c2_cat h (by simpa using hc) q.2, by omega⟩
  | o :: t, 1, x, j + 1, w, h => by
    simp only [stL, ldL] at h
    rcases stL_ld t 0 x j w h with ⟨h1, h2⟩ | ⟨h1, h2, h3, h4⟩
    · exact Or.inl ⟨by omega, h2⟩
    · exact Or.inr ⟨by omega, by simpa [ldL] using h2, by omega, fun q => by have := h4 q; omega⟩
  | o :: t, i + 2, x, 0, w, h => by
    simp only [stL, ldL] at h
    exact Or.inr ⟨by omega, by simpa [ldL] using h, by omega, by omega⟩
  | o :: t, i + 2, x, j + 1, w, h => by
    simp only [stL, ldL] at h
    rcases stL_ld t (i + 1) x j w h with ⟨h1, h2⟩ | ⟨h1, h2, h3, h4⟩
    · exact Or.inl ⟨by omega, h2⟩
    · exact Or.inr ⟨by omega, by simpa [ldL] using h2, fun q => h3 ⟨by omega, q.2⟩, fun q => by have := h4 q; omega⟩
section Rel
variable (b : Nat) (xt : Nat → Nat)
def adr (a : Nat) : Nat := if a < 1000 then b + a else xt (a - 1000)
def rv (v : Value) : Value := match v with
  | .ref a => .ref (adr b xt a)
  | .int x => .int x
  | .long x => .long x
  | .float x => .float x
  | .double x => .double x
  | .null => .null
  | .retAddr _ => if xt 20 = 0 then .null else .ref (xt 9)
theorem rv_cat (v : Value) : (rv b xt v).category = v.category := by
  cases v <;> first | rfl | (simp only [rv]; split <;> rfl)
theorem rv_cats (st : List Value) : ((st.map (rv b xt)).map fun v => v.category) = st.map fun v => v.category := by
  induction st with
  | nil => rfl
  | cons v t ih => simp [rv_cat, ih]
def prs : Nat → Lo → List (Nat × Value)
  | _, [] => []
  | c, none :: t => prs (c + 1) t
  | c, some v :: t => (c, rv b xt v) :: prs (c + 1) t
theorem prs_mem : ∀ (ls : Lo) (c j : Nat) (w : Value), (j, w) ∈ prs b xt c ls → ∃ v, c ≤ j ∧ ldL ls (j - c) = some v ∧ w = rv b xt v
  | [], c, j, w, h => by simp [prs] at h
  | none :: t, c, j, w, h => by
    obtain ⟨v, h1, h2, h3⟩ := prs_mem t (c + 1) j w (by simpa [prs] using h)
    refine ⟨v, by omega, ?_, h3⟩
    rw [show j - c = (j - (c + 1)) + 1 by omega]
    simpa [ldL] using h2
  | some u :: t, c, j, w, h => by
    simp only [prs, List.mem_cons, Prod.mk.injEq] at h
    rcases h with ⟨h1, h2⟩ | h
    · exact ⟨u, by omega, by rw [show j - c = 0 by omega]; rfl, h2⟩
    · obtain ⟨v, h1, h2, h3⟩ := prs_mem t (c + 1) j w h
      refine ⟨v, by omega, ?_, h3⟩
      rw [show j - c = (j - (c + 1)) + 1 by omega]
      simpa [ldL] using h2
theorem prs_of : ∀ (ls : Lo) (c j : Nat) (v : Value), ldL ls j = some v → (c + j, rv b xt v) ∈ prs b xt c ls
  | [], c, j, v, h => by simp [ldL] at h
  | none :: t, c, 0, v, h => by simp [ldL] at h
  | none :: t, c, j + 1, v, h => by
    have := prs_of t (c + 1) j v (by simpa [ldL] using h)
    simp only [prs]
    rw [show c + (j + 1) = c + 1 + j by omega]
    exact this
  | some u :: t, c, 0, v, h => by
    simp only [ldL] at h
    cases h
    simp [prs]
  | some u :: t, c, j + 1, v, h => by
    have := prs_of t (c + 1) j v (by simpa [ldL] using h)
    simp only [prs]
    rw [show c + (j + 1) = c + 1 + j by omega]
    exact List.mem_cons_of_mem _ this
/-- the locals hold what the list says -/
def LR (la : Array Slot) (ls : Lo) : Prop := lv_has la ls.length (prs b xt 0 ls)
theorem LR.at {la : Array Slot} {ls : Lo} (h : LR b xt la ls) {i : Nat} {v : Value} (hl : ldL ls i = some v) : la[i]? = some (.val (rv b xt v)) := by
  have := prs_of b xt ls 0 i v hl
  have h2 := h.2.2 _ this
  simpa using h2
theorem LR.st1 {la : Array Slot} {ls : Lo} {i : Nat} {x : Value} (hx : x.category = 1) (h : lv_has la ls.length ((i, rv b xt x) :: (prs b xt 0 ls).filter (fun q => !(q.1 == i) && !(q.1 + 1 == i && q.2.category == 2)))) : LR b xt la (stL ls i x) := by
  refine ⟨by rw [stL_len]; exact h.1, h.2.1, fun q hq => ?_⟩
  obtain ⟨j, w⟩ := q
  obtain ⟨v, -, h2, rfl⟩ := prs_mem b xt _ 0 j w hq
  rw [Nat.sub_zero] at h2
  rcases stL_ld ls i x j v h2 with ⟨rfl, rfl⟩ | ⟨h3, h4, h5, -⟩
  · exact h.2.2 _ List.mem_cons_self
  · refine h.2.2 _ (List.mem_cons_of_mem _ (List.mem_filter.mpr ⟨?_, ?_⟩))
    · have := prs_of b xt ls 0 j v h4
      simpa using this
    · simp only [rv_cat]
      simp [h3]
      by_cases hj : j + 1 = i
      · exact Or.inr (fun hc => h5 ⟨hj, hc⟩)
      · exact Or.inl hj
theorem LR.st2 {la : Array Slot} {ls : Lo} {i : Nat} {x : Value} (hx : x.category = 2) (h : lv_has la ls.length ((i, rv b xt x) :: (prs b xt 0 ls).filter (fun q => !(q.1 == i) && (!(q.1 == i + 1) && !(q.1 + 1 == i && q.2.category == 2))))) : LR b xt la (stL ls i x) := by
  refine ⟨by rw [stL_len]; exact h.1, h.2.1, fun q hq => ?_⟩
  obtain ⟨j, w⟩ := q
  obtain ⟨v, -, h2, rfl⟩ := prs_mem b xt _ 0 j w hq
  rw [Nat.sub_zero] at h2
  rcases stL_ld ls i x j v h2 with ⟨rfl, rfl⟩ | ⟨h3, h4, h5, h6⟩
  · exact h.2.2 _ List.mem_cons_self
  · refine h.2.2 _ (List.mem_cons_of_mem _ (List.mem_filter.mpr ⟨?_, ?_⟩))
    · have := prs_of b xt ls 0 j v h4
      simpa using this
    · simp only [rv_cat]
      simp [h3, h6 hx]
      by_cases hj : j + 1 = i
      · exact Or.inr (fun hc => h5 ⟨hj, hc⟩)
      · exact Or.inl hj
variable (cI cJ cZ cT : ClassId)
def fldV (s : Mm) (c k t : Nat) : Value := match t with
  | 1 => .long (s.2.2.1 c k)
  | 2 => va_rf ((s.2.2.2 c k).map (adr b xt))
  | _ => .int (s.2.1 c k)
def flds (s : Mm) (c : Nat) : Nat → List Nat → List Value
  | _, [] => []
  | k, t :: ts => fldV b xt s c k t :: flds s c (k + 1) ts
def ent (s : Mm) (c : Nat) (k : Nat × Nat) : va_E := match k.1 with
  | 0 => .inr (k.2, flds b xt s c 0 (fts.getD k.2 []))
  | 1 => .inl (cI, k.2, .inl (s.2.1 c))
  | 2 => .inl (cJ, k.2, .inr (.inl (s.2.2.1 c)))
  | 3 => .inl (cZ, k.2, .inl (s.2.1 c))
  | _ => .inl (cT, k.2, .inr (.inr (.inr (.inr (fun j => (s.2.2.2 c j).map (adr b xt))))))
def wldF (s : Mm) : Nat → List (Nat × Nat) → va_W
  | _, [] => []
  | c, k :: t => (b + c, ent b xt cI cJ cZ cT s c k) :: wldF s (c + 1) t
def wld (s : Mm) : va_W := wldF b xt cI cJ cZ cT s 0 s.1
theorem wldF_get (s : Mm) : ∀ (l : List (Nat × Nat)) (c0 c : Nat), (wldF b xt cI cJ cZ cT s c0 l)[c]? = (nthO l c).map (fun k => (b + (c0 + c), ent b xt cI cJ cZ cT s (c0 + c) k))
  | [], c0, c => by simp [wldF, nthO]
  | k :: t, c0, 0 => by simp [wldF, nthO]
  | k :: t, c0, c + 1 => by
    simp only [wldF, nthO, List.getElem?_cons_succ]
    rw [wldF_get s t (c0 + 1) c, show c0 + 1 + c = c0 + (c + 1) by omega]
theorem wld_get (s : Mm) (c : Nat) : (wld b xt cI cJ cZ cT s)[c]? = (kdM s c).map (fun k => (b + c, ent b xt cI cJ cZ cT s c k)) := by
  have := wldF_get b xt cI cJ cZ cT s s.1 0 c
  simpa [wld, kdM] using this
theorem wld_at {s : Mm} {c : Nat} {k : Nat × Nat} (h : kdM s c = some k) : (wld b xt cI cJ cZ cT s)[c]? = some (b + c, ent b xt cI cJ cZ cT s c k) := by rw [wld_get, h]; rfl
theorem wld_len (s : Mm) : (wld b xt cI cJ cZ cT s).length = s.1.length := by
  have : ∀ (l : List (Nat × Nat)) (c : Nat), (wldF b xt cI cJ cZ cT s c l).length = l.length := by
    intro l
    induction l with
    | nil => intro c; rfl
    | cons k t ih => intro c; simp [wldF, ih]
  exact this _ _
theorem wld_D (s : Mm) : va_D (fun q => b ≤ q) (wld b xt cI cJ cZ cT s) := by
  refine ⟨fun i j p q hi hj hpq => ?_, fun k q hk => ?_⟩
  · rw [wld_get] at hi hj
    obtain ⟨k1, -, rfl⟩ := Option.map_eq_some_iff.mp hi
    obtain ⟨k2, -, rfl⟩ := Option.map_eq_some_iff.mp hj
    simp at hpq
    omega
  · rw [wld_get] at hk
    obtain ⟨k1, -, rfl⟩ := Option.map_eq_some_iff.mp hk
    exact Nat.le_add_right b k
theorem wld_set {s s' : Mm} {c : Nat} {k : Nat × Nat} {E' : va_E} (h : kdM s c = some k) (h1 : s'.1 = s.1) (he : ent b xt cI cJ cZ cT s' c k = E') (ho : ∀ (c' : Nat) (k' : Nat × Nat), c' ≠ c → ent b xt cI cJ cZ cT s' c' k' = ent b xt cI cJ cZ cT s c' k') : (wld b xt cI cJ cZ cT s).set c (b + c, E') = wld b xt cI cJ cZ cT s' := by
  have hk : ∀ c, kdM s' c = kdM s c := fun c => by unfold kdM; rw [h1]
  apply List.ext_getElem?
  intro j
  rw [wld_get, List.getElem?_set, wld_get, wld_len, hk j]
  by_cases hj : c = j
  · subst hj
    have hlt : c < s.1.length := by
      unfold kdM at h
      rw [nthO_eq] at h
      exact (List.getElem?_eq_some_iff.mp h).1
    rw [if_pos rfl, if_pos hlt, h, Option.map_some, he]
  · rw [if_neg hj]
    cases hq : kdM s j with
    | none => rfl
    | some q => simp [ho j q (fun z => hj z.symm)]
theorem kd_lt {s : Mm} {c : Nat} {k : Nat × Nat} (h : kdM s c = some k) : c < s.1.length := by
  unfold kdM at h
  rw [nthO_eq] at h
  exact (List.getElem?_eq_some_iff.mp h).1
theorem flds_len (s : Mm) (c : Nat) : ∀ (ts : List Nat) (k : Nat), (flds b xt s c k ts).length = ts.length
  | [], k => rfl
  | t :: ts, k => by simp [flds, flds_len s c ts (k + 1)]
theorem flds_at (s : Mm) (c : Nat) : ∀ (ts : List Nat) (k j : Nat), (flds b xt s c k ts)[j]? = (nthO ts j).map (fldV b xt s c (k + j))
  | [], k, j => by simp [flds, nthO]
  | t :: ts, k, 0 => by simp [flds, nthO]
  | t :: ts, k, j + 1 => by
    simp only [flds, nthO, List.getElem?_cons_succ]
    rw [flds_at s c ts (k + 1) j, show k + 1 + j = k + (j + 1) by omega]
theorem flds_set {s s' : Mm} {c : Nat} {ts : List Nat} {j t : Nat} {v : Value} (ht : nthO ts j = some t) (hv : fldV b xt s' c j t = v) (ho : ∀ j' t', j' ≠ j → fldV b xt s' c j' t' = fldV b xt s c j' t') : (flds b xt s c 0 ts).set j v = flds b xt s' c 0 ts := by
  apply List.ext_getElem?
  intro q
  rw [List.getElem?_set, flds_at, flds_at, flds_len]
  have hl : j < ts.length := by rw [nthO_eq] at ht; exact (List.getElem?_eq_some_iff.mp ht).1
  by_cases hq : j = q
  · subst hq
    rw [if_pos rfl, if_pos hl, ht, Option.map_some, Nat.zero_add, hv]
  · rw [if_neg hq]
    cases hz : nthO ts q with
    | none => rfl
    | some z => simp [ho q z (fun y => hq y.symm)]
end Rel
