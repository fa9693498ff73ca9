/-! the other instructions on cells -/
theorem szK_app (cn : List Nat) (k : Nat × Nat) : ∀ l : List (Nat × Nat), szK cn (l ++ [k]) = szK cn l + (if k.1 = 0 then cn.getD k.2 0 else k.2)
  | [] => by simp [szK]
  | a :: t => by simp [szK, szK_app cn k t]; omega
theorem nthO_app {α : Type} (l : List α) (a : α) (i : Nat) : nthO (l ++ [a]) i = if i < l.length then nthO l i else if i = l.length then some a else none := by
  rw [nthO_eq, nthO_eq, List.getElem?_append]
  by_cases h : i < l.length
  · simp [h]
  · by_cases h2 : i = l.length
    · simp [h2]
    · simp [h, h2]
      omega
section Heap2
variable {p : Program} {l : Launch} {e : Env} {R : Room} {s0 : State} {m : MethodId} {args : Array Value} {below : List Frame} {meth : Method} {c : Code} {Q : State → Prop} {H : Heap} {locs : List Loc} {cells slots k0 z0 : Nat}
variable {b : Nat} {xt : Nat → Nat} {D : va_G} {cI cJ cZ cT : ClassId} {sc : Sc} {la : Array Slot} {ls : Lo} {st : List Value} {s : Mm} {mi i tag pc len : Nat} {ops : List Nat} {kc : Int} {o : Nat × Lo × List Value × Mm}
theorem ent_new (k : Nat × Nat) (c' : Nat) (k' : Nat × Nat) (h : c' ≠ s.1.length) : ent b xt cI cJ cZ cT (newM s k) c' k' = ent b xt cI cJ cZ cT s c' k' := by
  have h1 : (newM s k).2.1 c' = s.2.1 c' := by funext j; simp [newM, h]
  have h2 : (newM s k).2.2.1 c' = s.2.2.1 c' := by funext j; simp [newM, h]
  have h3 : (newM s k).2.2.2 c' = s.2.2.2 c' := by funext j; simp [newM, h]
  have hf : ∀ (ts : List Nat) (q : Nat), flds b xt (newM s k) c' q ts = flds b xt s c' q ts := by
    intro ts
    induction ts with
    | nil => intro q; rfl
    | cons t ts ih => intro q; simp only [flds, ih]; congr 1; simp only [fldV, h1, h2, h3]
  unfold ent
  simp only [hf, h1, h2, h3]
theorem wld_new (k : Nat × Nat) {E : va_E} (hE : ent b xt cI cJ cZ cT (newM s k) s.1.length k = E) : wld b xt cI cJ cZ cT s ++ [(b + s.1.length, E)] = wld b xt cI cJ cZ cT (newM s k) := by
  apply List.ext_getElem?
  intro j
  rw [wld_get]
  have hk : kdM (newM s k) j = if j < s.1.length then kdM s j else if j = s.1.length then some k else none := nthO_app s.1 k j
  rw [hk, List.getElem?_append, wld_len, wld_get]
  by_cases h : j < s.1.length
  · rw [if_pos h, if_pos h]
    cases hq : kdM s j with
    | none => rfl
    | some q => simp [ent_new (s := s) k j q (by omega)]
  · rw [if_neg h, if_neg h]
    by_cases h2 : j = s.1.length
    · subst h2
      simp [hE]
    · rw [if_neg h2]
      have : ¬ j - s.1.length = 0 := by omega
      simp [List.getElem?_cons, this]
theorem W_up {g : JFrame} {n : Nat} (hs0 : s0.heap.size = b + k0) (hc : cells + k0 = n) (k : H.size ≤ b + n → W p l e R s0 m args below meth c H locs cells slots Q g) : W p l e R s0 m args below meth c H locs cells slots Q g := fun T hT X => k (by
  have h1 := X.same.2.2.1
  have e1 : (T.setVm s0.vm).heap = H := hT
  rw [e1] at h1
  omega) T hT X
theorem W_dn {g : JFrame} (hs0 : s0.heap.size = b + k0) (hc : cells + k0 = s.1.length) (hP : va_P D vwCl (wld b xt cI cJ cZ cT s) H) (k : H.size = b + s.1.length → W p l e R s0 m args below meth c H locs cells slots Q g) : W p l e R s0 m args below meth c H locs cells slots Q g := fun T hT X => k (by
  have h1 := X.same.2.2.1
  have h2 := X.same.2.1
  have e1 : (T.setVm s0.vm).heap = H := hT
  rw [e1] at h1 h2
  by_cases h0 : s.1.length = 0
  · omega
  · obtain ⟨q, hq⟩ : ∃ q, kdM s (s.1.length - 1) = some q := by
      unfold kdM
      rw [nthO_eq]
      exact ⟨_, List.getElem?_eq_getElem (by omega)⟩
    have h3 := (hP _ _ (wld_at b xt cI cJ cZ cT hq)).lt
    have h3 : b + (s.1.length - 1) < H.size := h3
    omega) T hT X
theorem fresh_q {q : Nat} {E : va_E} {H1 : Heap} (hP1 : va_P D vwCl (wld b xt cI cJ cZ cT s ++ [(q, E)]) H1) (hD1 : va_D (fun q => b ≤ q) (wld b xt cI cJ cZ cT s ++ [(q, E)])) (hz : H1.size ≤ b + (s.1.length + 1)) : q = b + s.1.length := by
  have e1 : (wld b xt cI cJ cZ cT s ++ [(q, E)])[s.1.length]? = some (q, E) := by
    rw [List.getElem?_append, wld_len]
    simp
  have h1 : q < H1.size := (hP1 _ _ e1).lt
  have h2 : b ≤ q := hD1.2 _ _ e1
  by_cases h3 : q < b + s.1.length
  · exfalso
    obtain ⟨z, hz⟩ : ∃ z, kdM s (q - b) = some z := by
      unfold kdM
      rw [nthO_eq]
      exact ⟨_, List.getElem?_eq_getElem (by omega)⟩
    have e2 : (wld b xt cI cJ cZ cT s ++ [(q, E)])[q - b]? = some (b + (q - b), ent b xt cI cJ cZ cT s (q - b) z) := by
      rw [List.getElem?_append, wld_len, if_pos (by omega)]
      exact wld_at b xt cI cJ cZ cT hz
    have := hD1.1 _ _ _ _ e1 e2 (show q = b + (q - b) by omega)
    omega
  · omega
theorem cA_eq {ty : FieldType} {cA cB : ClassId} (t : Nat) (hK : va_K D vwCl (tysM cI cJ cZ cT ++ [(cA, ty)]) s0) (ht : (tysM cI cJ cZ cT)[t]? = some (cB, ty)) : cA = cB := by
  have h1 := (hK.2 4 (cA, ty) rfl).2
  have h2 := (hK.2 t (cB, ty) (by rw [List.getElem?_append_left (List.getElem?_eq_some_iff.mp ht).1]; exact ht)).2
  cases ty with
  | object C =>
    obtain ⟨_, _, _, _, _, h1⟩ := h1
    obtain ⟨_, _, _, _, _, h2⟩ := h2
    exact Option.some.inj (h1.symm.trans h2)
  | _ => exact Option.some.inj (Eq.trans (Eq.symm h1) h2)
set_option maxHeartbeats 1000000 in
theorem sh_iaload  (F : Fx b xt D cI cJ cZ cT sc p s0 m args meth c mi) (hN : Nw b xt D cI cJ cZ cT s0.heap s H locs) (hL : LR b xt la ls) (hc : cells + k0 = s.1.length) (hz : slots + z0 = szK cnN s.1) (hd : decode (mt_ mi).2.1 pc = .ok (.iaload, 1)) (hn : pcO mi (i + 1) = pc + 1) (h : alI i ls st s sc = some o) (kk : ∀ (la' : Array Slot) (H' : Heap) (locs' : List Loc) (cells' slots' : Nat), LR b xt la' o.2.1 → Nw b xt D cI cJ cZ cT s0.heap o.2.2.2 H' locs' → cells' + k0 = o.2.2.2.1.length → slots' + z0 = szK cnN o.2.2.2.1 → W p l e R s0 m args below meth c H' locs' cells' slots' Q (F0 m (pcO mi o.1) la' (o.2.2.1.map (rv b xt)))) : W p l e R s0 m args below meth c H locs cells slots Q (F0 m pc la (st.map (rv b xt))) := by
  obtain ⟨⟨hx, hb, hml, hown, hts⟩, hK, hRO, hin⟩ := F
  obtain ⟨hP, hS⟩ := hN
  have hD := wld_D b xt cI cJ cZ cT s
  obtain ⟨j, cl, r, n, f, rfl, h1, h2, rfl⟩ := inv_alI h
  show W p l e R s0 m args below meth c H locs cells slots Q (F0 m pc la (.int j :: .ref (adr b xt cl) :: r.map (rv b xt)))
  rcases arI_in h1 with ⟨g1, g2, rfl⟩ | ⟨g1, g2⟩
  · rw [adr_lt g1]
    refine va_iald hx hb hK hP cl 0 (show _ = some (b + cl, (.inl (cI, n, .inl (s.2.1 cl)) : va_E)) from wld_at b xt cI cJ cZ cT g2) rfl h2 hd ?_
    have := kk la H locs cells slots hL ⟨hP, hS⟩ hc hz
    rw [show pcO mi (i + 1) = _ from hn] at this
    exact this
  · rw [adr_ge g1]
    unfold roA at g2
    split at g2
    · rename_i g3
      subst g3
      obtain rfl := Option.some.inj g2
      refine va_sld hx hb (A := fun q => b ≤ q) hRO.1.1 hRO.1.2.1 (Nat.not_le.mpr hRO.1.2.2) hS h2 hd ?_
      have := kk la H locs cells slots hL ⟨hP, hS⟩ hc hz
      rw [show pcO mi (i + 1) = _ from hn] at this
      exact this
    · rename_i g3
      cases hr : nthO roT (cl - 1001) with
      | none => rw [hr] at g2; cases g2
      | some t =>
        rw [hr] at g2
        have g2 := Option.some.inj g2
        have hj : cl - 1001 < 4 := by
          rw [nthO_eq] at hr
          exact (List.getElem?_eq_some_iff.mp hr).1
        have ht : roT.getD (cl - 1001) [] = t := by rw [nthO_eq] at hr; simp [List.getD, hr]
        have hT := (hRO.2.1 (cl - 1001) hj).2
        rw [ht] at hT
        rw [show cl - 1000 = 1 + (cl - 1001) by omega]
        have e1 : t.length = n := congrArg Prod.fst g2
        have e2 : (fun j => t.getD j 0) = f := congrArg Prod.snd g2
        subst e1
        subst e2
        refine va_ti hx hb (A := fun q => b ≤ q) hT hS h2 rfl hd ?_
        have := kk la H locs cells slots hL ⟨hP, hS⟩ hc hz
        rw [show pcO mi (i + 1) = _ from hn] at this
        exact this
set_option maxHeartbeats 1000000 in
theorem sh_iastore  (F : Fx b xt D cI cJ cZ cT sc p s0 m args meth c mi) (hN : Nw b xt D cI cJ cZ cT s0.heap s H locs) (hL : LR b xt la ls) (hc : cells + k0 = s.1.length) (hz : slots + z0 = szK cnN s.1) (hd : decode (mt_ mi).2.1 pc = .ok (.iastore, 1)) (hn : pcO mi (i + 1) = pc + 1) (h : asI i ls st s = some o) (kk : ∀ (la' : Array Slot) (H' : Heap) (locs' : List Loc) (cells' slots' : Nat), LR b xt la' o.2.1 → Nw b xt D cI cJ cZ cT s0.heap o.2.2.2 H' locs' → cells' + k0 = o.2.2.2.1.length → slots' + z0 = szK cnN o.2.2.2.1 → W p l e R s0 m args below meth c H' locs' cells' slots' Q (F0 m (pcO mi o.1) la' (o.2.2.1.map (rv b xt)))) : W p l e R s0 m args below meth c H locs cells slots Q (F0 m pc la (st.map (rv b xt))) := by
  obtain ⟨⟨hx, hb, hml, hown, hts⟩, hK, hRO, hin⟩ := F
  obtain ⟨hP, hS⟩ := hN
  have hD := wld_D b xt cI cJ cZ cT s
  obtain ⟨x, j, cl, r, n, rfl, g1, g2, h2, rfl⟩ := inv_asI h
  show W p l e R s0 m args below meth c H locs cells slots Q (F0 m pc la (.int x :: .int j :: .ref (adr b xt cl) :: r.map (rv b xt)))
  rw [adr_lt g1]
  refine va_iast hx hb hK hP hD hS cl 0 (show _ = some (b + cl, (.inl (cI, n, .inl (s.2.1 cl)) : va_E)) from wld_at b xt cI cJ cZ cT g2) rfl h2 hd (fun H1 locs1 q1 _ q3 => ?_)
  rw [wld_set b xt cI cJ cZ cT (s' := upI s cl j.toNatClampNeg x) g2 rfl (show _ = (.inl (cI, n, .inl (upd (s.2.1 cl) j.toNatClampNeg x)) : va_E) from ?_) (fun c' k' h => ent_upI c' k' h)] at q1
  · have := kk la H1 locs1 cells slots hL ⟨q1, q3⟩ hc hz
    rw [show pcO mi (i + 1) = _ from hn] at this
    exact this
  · show Sum.inl _ = _
    congr 4
    funext q
    simp [upI, upd]
set_option maxHeartbeats 1000000 in
theorem sh_lastore  (F : Fx b xt D cI cJ cZ cT sc p s0 m args meth c mi) (hN : Nw b xt D cI cJ cZ cT s0.heap s H locs) (hL : LR b xt la ls) (hc : cells + k0 = s.1.length) (hz : slots + z0 = szK cnN s.1) (hd : decode (mt_ mi).2.1 pc = .ok (.lastore, 1)) (hn : pcO mi (i + 1) = pc + 1) (h : asJ i ls st s = some o) (kk : ∀ (la' : Array Slot) (H' : Heap) (locs' : List Loc) (cells' slots' : Nat), LR b xt la' o.2.1 → Nw b xt D cI cJ cZ cT s0.heap o.2.2.2 H' locs' → cells' + k0 = o.2.2.2.1.length → slots' + z0 = szK cnN o.2.2.2.1 → W p l e R s0 m args below meth c H' locs' cells' slots' Q (F0 m (pcO mi o.1) la' (o.2.2.1.map (rv b xt)))) : W p l e R s0 m args below meth c H locs cells slots Q (F0 m pc la (st.map (rv b xt))) := by
  obtain ⟨⟨hx, hb, hml, hown, hts⟩, hK, hRO, hin⟩ := F
  obtain ⟨hP, hS⟩ := hN
  have hD := wld_D b xt cI cJ cZ cT s
  obtain ⟨x, j, cl, r, n, rfl, g1, g2, h2, rfl⟩ := inv_asJ h
  show W p l e R s0 m args below meth c H locs cells slots Q (F0 m pc la (.long x :: .int j :: .ref (adr b xt cl) :: r.map (rv b xt)))
  rw [adr_lt g1]
  refine va_last hx hb hK hP hD hS cl 1 (show _ = some (b + cl, (.inl (cJ, n, .inr (.inl (s.2.2.1 cl))) : va_E)) from wld_at b xt cI cJ cZ cT g2) rfl h2 hd (fun H1 locs1 q1 _ q3 => ?_)
  rw [wld_set b xt cI cJ cZ cT (s' := upJ s cl j.toNatClampNeg x) g2 rfl (show _ = (.inl (cJ, n, .inr (.inl (vp_updL (s.2.2.1 cl) j.toNatClampNeg x))) : va_E) from ?_) (fun c' k' h => ent_upJ c' k' h)] at q1
  · have := kk la H1 locs1 cells slots hL ⟨q1, q3⟩ hc hz
    rw [show pcO mi (i + 1) = _ from hn] at this
    exact this
  · show Sum.inl _ = _
    congr 5
    funext q
    simp [upJ, vp_updL]
set_option maxHeartbeats 1000000 in
theorem sh_bastore  (F : Fx b xt D cI cJ cZ cT sc p s0 m args meth c mi) (hN : Nw b xt D cI cJ cZ cT s0.heap s H locs) (hL : LR b xt la ls) (hc : cells + k0 = s.1.length) (hz : slots + z0 = szK cnN s.1) (hd : decode (mt_ mi).2.1 pc = .ok (.bastore, 1)) (hn : pcO mi (i + 1) = pc + 1) (h : asB i ls st s = some o) (kk : ∀ (la' : Array Slot) (H' : Heap) (locs' : List Loc) (cells' slots' : Nat), LR b xt la' o.2.1 → Nw b xt D cI cJ cZ cT s0.heap o.2.2.2 H' locs' → cells' + k0 = o.2.2.2.1.length → slots' + z0 = szK cnN o.2.2.2.1 → W p l e R s0 m args below meth c H' locs' cells' slots' Q (F0 m (pcO mi o.1) la' (o.2.2.1.map (rv b xt)))) : W p l e R s0 m args below meth c H locs cells slots Q (F0 m pc la (st.map (rv b xt))) := by
  obtain ⟨⟨hx, hb, hml, hown, hts⟩, hK, hRO, hin⟩ := F
  obtain ⟨hP, hS⟩ := hN
  have hD := wld_D b xt cI cJ cZ cT s
  obtain ⟨x, j, cl, r, n, rfl, g1, hx01, g2, h2, rfl⟩ := inv_asB h
  show W p l e R s0 m args below meth c H locs cells slots Q (F0 m pc la (.int x :: .int j :: .ref (adr b xt cl) :: r.map (rv b xt)))
  rw [adr_lt g1]
  refine va_zast hx hb hK hP hD hS cl 2 (show _ = some (b + cl, (.inl (cZ, n, .inl (s.2.1 cl)) : va_E)) from wld_at b xt cI cJ cZ cT g2) rfl h2 hd (fun H1 locs1 q1 _ q3 => ?_)
  have e01 : vp_nar .boolean x = x := by rcases hx01 with rfl | rfl <;> rfl
  rw [e01] at q1
  rw [wld_set b xt cI cJ cZ cT (s' := upI s cl j.toNatClampNeg x) g2 rfl (show _ = (.inl (cZ, n, .inl (upd (s.2.1 cl) j.toNatClampNeg x)) : va_E) from ?_) (fun c' k' h => ent_upI c' k' h)] at q1
  · have := kk la H1 locs1 cells slots hL ⟨q1, q3⟩ hc hz
    rw [show pcO mi (i + 1) = _ from hn] at this
    exact this
  · show Sum.inl _ = _
    congr 4
    funext q
    simp [upI, upd]
set_option maxHeartbeats 1000000 in
theorem sh_aastore  (F : Fx b xt D cI cJ cZ cT sc p s0 m args meth c mi) (hN : Nw b xt D cI cJ cZ cT s0.heap s H locs) (hL : LR b xt la ls) (hc : cells + k0 = s.1.length) (hz : slots + z0 = szK cnN s.1) (hd : decode (mt_ mi).2.1 pc = .ok (.aastore, 1)) (hn : pcO mi (i + 1) = pc + 1) (h : asA i ls st s = some o) (kk : ∀ (la' : Array Slot) (H' : Heap) (locs' : List Loc) (cells' slots' : Nat), LR b xt la' o.2.1 → Nw b xt D cI cJ cZ cT s0.heap o.2.2.2 H' locs' → cells' + k0 = o.2.2.2.1.length → slots' + z0 = szK cnN o.2.2.2.1 → W p l e R s0 m args below meth c H' locs' cells' slots' Q (F0 m (pcO mi o.1) la' (o.2.2.1.map (rv b xt)))) : W p l e R s0 m args below meth c H locs cells slots Q (F0 m pc la (st.map (rv b xt))) := by
  obtain ⟨⟨hx, hb, hml, hown, hts⟩, hK, hRO, hin⟩ := F
  obtain ⟨hP, hS⟩ := hN
  have hD := wld_D b xt cI cJ cZ cT s
  obtain ⟨a, j, cl, r, n, rfl, g1, g4, g5, g2, h2, rfl⟩ := inv_asA h
  show W p l e R s0 m args below meth c H locs cells slots Q (F0 m pc la (.ref (adr b xt a) :: .int j :: .ref (adr b xt cl) :: r.map (rv b xt)))
  rw [adr_lt g1, adr_lt g4]
  refine va_astq hx hb hK hP hD hS cl 3 a 8 (r := (RX8, TX8, 6)) (show _ = some (b + cl, (.inl (cT, n, .inr (.inr (.inr (.inr (fun j => (s.2.2.2 cl j).map (adr b xt)))))) : va_E)) from wld_at b xt cI cJ cZ cT g2) rfl (show _ = some (b + a, (.inr (8, flds b xt s a 0 (fts.getD 8 [])) : va_E)) from wld_at b xt cI cJ cZ cT g5) rfl h2 hd (fun H1 locs1 q1 _ q3 => ?_)
  rw [wld_set b xt cI cJ cZ cT (s' := upR s cl j.toNatClampNeg (some a)) g2 rfl (show _ = (.inl (cT, n, .inr (.inr (.inr (.inr (va_up (fun j => (s.2.2.2 cl j).map (adr b xt)) j.toNatClampNeg (some (b + a))))))) : va_E) from ?_) (fun c' k' h => ent_upR c' k' h)] at q1
  · have := kk la H1 locs1 cells slots hL ⟨q1, q3⟩ hc hz
    rw [show pcO mi (i + 1) = _ from hn] at this
    exact this
  · show Sum.inl _ = _
    congr 7
    funext q
    by_cases hq : q = j.toNatClampNeg
    · simp [upR, va_up, hq, adr_lt g4]
    · simp [upR, va_up, hq]
set_option maxHeartbeats 1000000 in
theorem sh_laload  (F : Fx b xt D cI cJ cZ cT sc p s0 m args meth c mi) (hN : Nw b xt D cI cJ cZ cT s0.heap s H locs) (hL : LR b xt la ls) (hc : cells + k0 = s.1.length) (hz : slots + z0 = szK cnN s.1) (hd : decode (mt_ mi).2.1 pc = .ok (.laload, 1)) (hn : pcO mi (i + 1) = pc + 1) (h : alJ i ls st s = some o) (kk : ∀ (la' : Array Slot) (H' : Heap) (locs' : List Loc) (cells' slots' : Nat), LR b xt la' o.2.1 → Nw b xt D cI cJ cZ cT s0.heap o.2.2.2 H' locs' → cells' + k0 = o.2.2.2.1.length → slots' + z0 = szK cnN o.2.2.2.1 → W p l e R s0 m args below meth c H' locs' cells' slots' Q (F0 m (pcO mi o.1) la' (o.2.2.1.map (rv b xt)))) : W p l e R s0 m args below meth c H locs cells slots Q (F0 m pc la (st.map (rv b xt))) := by
  obtain ⟨⟨hx, hb, hml, hown, hts⟩, hK, hRO, hin⟩ := F
  obtain ⟨hP, hS⟩ := hN
  have hD := wld_D b xt cI cJ cZ cT s
  obtain ⟨j, cl, r, n, rfl, g1, g2, h2, rfl⟩ := inv_alJ h
  show W p l e R s0 m args below meth c H locs cells slots Q (F0 m pc la (.int j :: .ref (adr b xt cl) :: r.map (rv b xt)))
  rw [adr_lt g1]
  refine va_lald hx hb hK hP cl 1 (show _ = some (b + cl, (.inl (cJ, n, .inr (.inl (s.2.2.1 cl))) : va_E)) from wld_at b xt cI cJ cZ cT g2) rfl h2 hd ?_
  have := kk la H locs cells slots hL ⟨hP, hS⟩ hc hz
  rw [show pcO mi (i + 1) = _ from hn] at this
  exact this
set_option maxHeartbeats 1000000 in
theorem sh_aaload  (F : Fx b xt D cI cJ cZ cT sc p s0 m args meth c mi) (hN : Nw b xt D cI cJ cZ cT s0.heap s H locs) (hL : LR b xt la ls) (hc : cells + k0 = s.1.length) (hz : slots + z0 = szK cnN s.1) (hd : decode (mt_ mi).2.1 pc = .ok (.aaload, 1)) (hn : pcO mi (i + 1) = pc + 1) (h : alA i ls st s = some o) (kk : ∀ (la' : Array Slot) (H' : Heap) (locs' : List Loc) (cells' slots' : Nat), LR b xt la' o.2.1 → Nw b xt D cI cJ cZ cT s0.heap o.2.2.2 H' locs' → cells' + k0 = o.2.2.2.1.length → slots' + z0 = szK cnN o.2.2.2.1 → W p l e R s0 m args below meth c H' locs' cells' slots' Q (F0 m (pcO mi o.1) la' (o.2.2.1.map (rv b xt)))) : W p l e R s0 m args below meth c H locs cells slots Q (F0 m pc la (st.map (rv b xt))) := by
  obtain ⟨⟨hx, hb, hml, hown, hts⟩, hK, hRO, hin⟩ := F
  obtain ⟨hP, hS⟩ := hN
  have hD := wld_D b xt cI cJ cZ cT s
  obtain ⟨j, cl, r, n, rfl, g1, g2, h2, rfl⟩ := inv_alA h
  show W p l e R s0 m args below meth c H locs cells slots Q (F0 m pc la (.int j :: .ref (adr b xt cl) :: r.map (rv b xt)))
  rw [adr_lt g1]
  refine va_aldq hx hb hK hP cl 3 (show _ = some (b + cl, (.inl (cT, n, .inr (.inr (.inr (.inr (fun j => (s.2.2.2 cl j).map (adr b xt)))))) : va_E)) from wld_at b xt cI cJ cZ cT g2) rfl h2 hd ?_
  have := kk la H locs cells slots hL ⟨hP, hS⟩ hc hz
  rw [show pcO mi (i + 1) = _ from hn] at this
  simp only [List.map_cons, rv_valR] at this
  exact this
set_option maxHeartbeats 1000000 in
theorem sh_baload  (F : Fx b xt D cI cJ cZ cT sc p s0 m args meth c mi) (hN : Nw b xt D cI cJ cZ cT s0.heap s H locs) (hL : LR b xt la ls) (hc : cells + k0 = s.1.length) (hz : slots + z0 = szK cnN s.1) (hd : decode (mt_ mi).2.1 pc = .ok (.baload, 1)) (hn : pcO mi (i + 1) = pc + 1) (h : alB i ls st s = some o) (kk : ∀ (la' : Array Slot) (H' : Heap) (locs' : List Loc) (cells' slots' : Nat), LR b xt la' o.2.1 → Nw b xt D cI cJ cZ cT s0.heap o.2.2.2 H' locs' → cells' + k0 = o.2.2.2.1.length → slots' + z0 = szK cnN o.2.2.2.1 → W p l e R s0 m args below meth c H' locs' cells' slots' Q (F0 m (pcO mi o.1) la' (o.2.2.1.map (rv b xt)))) : W p l e R s0 m args below meth c H locs cells slots Q (F0 m pc la (st.map (rv b xt))) := by
  obtain ⟨⟨hx, hb, hml, hown, hts⟩, hK, hRO, hin⟩ := F
  obtain ⟨hP, hS⟩ := hN
  have hD := wld_D b xt cI cJ cZ cT s
  obtain ⟨j, cl, r, rfl, ⟨g1, n, g2, h2, rfl⟩ | ⟨g1, n, f, g2, h2, rfl⟩⟩ := inv_alB h
  · show W p l e R s0 m args below meth c H locs cells slots Q (F0 m pc la (.int j :: .ref (adr b xt cl) :: r.map (rv b xt)))
    rw [adr_lt g1]
    refine va_zald hx hb hK hP cl 2 (show _ = some (b + cl, (.inl (cZ, n, .inl (s.2.1 cl)) : va_E)) from wld_at b xt cI cJ cZ cT g2) rfl h2 hd ?_
    have := kk la H locs cells slots hL ⟨hP, hS⟩ hc hz
    rw [show pcO mi (i + 1) = _ from hn] at this
    exact this
  · show W p l e R s0 m args below meth c H locs cells slots Q (F0 m pc la (.int j :: .ref (adr b xt cl) :: r.map (rv b xt)))
    rw [adr_ge g1]
    unfold roB at g2
    split at g2
    · cases g2
    · rename_i g3
      cases hr : nthO roTB (cl - 1007) with
      | none => rw [hr] at g2; cases g2
      | some t =>
        rw [hr] at g2
        have g2 := Option.some.inj g2
        have hj : cl - 1007 < 2 := by
          rw [nthO_eq] at hr
          exact (List.getElem?_eq_some_iff.mp hr).1
        have ht : roTB.getD (cl - 1007) [] = t := by rw [nthO_eq] at hr; simp [List.getD, hr]
        have hT := (hRO.2.2.1.1 (cl - 1007) hj).2.2.2
        rw [lenTB_ok _ hj, ht] at hT
        rw [show cl - 1000 = 7 + (cl - 1007) by omega]
        have e1 : t.length = n := congrArg Prod.fst g2
        have e2 : (fun j => t.getD j 0) = f := congrArg Prod.snd g2
        subst e1
        subst e2
        refine va_tb hx hb (A := fun q => b ≤ q) hT hS h2 rfl hd ?_
        have := kk la H locs cells slots hL ⟨hP, hS⟩ hc hz
        rw [show pcO mi (i + 1) = _ from hn] at this
        exact this
set_option maxHeartbeats 1000000 in
theorem sh_alen  (F : Fx b xt D cI cJ cZ cT sc p s0 m args meth c mi) (hN : Nw b xt D cI cJ cZ cT s0.heap s H locs) (hL : LR b xt la ls) (hc : cells + k0 = s.1.length) (hz : slots + z0 = szK cnN s.1) (hd : decode (mt_ mi).2.1 pc = .ok (.arraylength, 1)) (hn : pcO mi (i + 1) = pc + 1) (h : alN i ls st s sc = some o) (kk : ∀ (la' : Array Slot) (H' : Heap) (locs' : List Loc) (cells' slots' : Nat), LR b xt la' o.2.1 → Nw b xt D cI cJ cZ cT s0.heap o.2.2.2 H' locs' → cells' + k0 = o.2.2.2.1.length → slots' + z0 = szK cnN o.2.2.2.1 → W p l e R s0 m args below meth c H' locs' cells' slots' Q (F0 m (pcO mi o.1) la' (o.2.2.1.map (rv b xt)))) : W p l e R s0 m args below meth c H locs cells slots Q (F0 m pc la (st.map (rv b xt))) := by
  obtain ⟨⟨hx, hb, hml, hown, hts⟩, hK, hRO, hin⟩ := F
  obtain ⟨hP, hS⟩ := hN
  have hD := wld_D b xt cI cJ cZ cT s
  obtain ⟨cl, r, rfl, ⟨g1, n, g2, rfl⟩ | ⟨g1, rfl⟩ | ⟨g1, n, f, g2, rfl⟩⟩ := inv_alN h
  · show W p l e R s0 m args below meth c H locs cells slots Q (F0 m pc la (.ref (adr b xt cl) :: r.map (rv b xt)))
    rw [adr_lt g1]
    refine va_alen hx hb hK hP cl 0 (show _ = some (b + cl, (.inl (cI, n, .inl (s.2.1 cl)) : va_E)) from wld_at b xt cI cJ cZ cT g2) rfl rfl hd ?_
    have := kk la H locs cells slots hL ⟨hP, hS⟩ hc hz
    rw [show pcO mi (i + 1) = _ from hn] at this
    exact this
  · subst g1
    show W p l e R s0 m args below meth c H locs cells slots Q (F0 m pc la (.ref (adr b xt 1000) :: r.map (rv b xt)))
    rw [adr_ge (by omega)]
    refine va_slen hx hb (A := fun q => b ≤ q) hRO.1.1 hRO.1.2.1 (Nat.not_le.mpr hRO.1.2.2) hS hd ?_
    have := kk la H locs cells slots hL ⟨hP, hS⟩ hc hz
    rw [show pcO mi (i + 1) = _ from hn] at this
    exact this
  · show W p l e R s0 m args below meth c H locs cells slots Q (F0 m pc la (.ref (adr b xt cl) :: r.map (rv b xt)))
    rw [adr_ge g1]
    unfold roB at g2
    split at g2
    · cases g2
    · rename_i g3
      cases hr : nthO roTB (cl - 1007) with
      | none => rw [hr] at g2; cases g2
      | some t =>
        rw [hr] at g2
        have g2 := Option.some.inj g2
        have hj : cl - 1007 < 2 := by
          rw [nthO_eq] at hr
          exact (List.getElem?_eq_some_iff.mp hr).1
        have ht : roTB.getD (cl - 1007) [] = t := by rw [nthO_eq] at hr; simp [List.getD, hr]
        have hT := (hRO.2.2.1.1 (cl - 1007) hj).2.2.2
        rw [lenTB_ok _ hj, ht] at hT
        rw [show cl - 1000 = 7 + (cl - 1007) by omega]
        have e1 : t.length = n := congrArg Prod.fst g2
        subst e1
        refine va_tlen hx hb (A := fun q => b ≤ q) hT hS rfl hd ?_
        have := kk la H locs cells slots hL ⟨hP, hS⟩ hc hz
        rw [show pcO mi (i + 1) = _ from hn] at this
        exact this
set_option maxHeartbeats 1000000 in
theorem sh_newI (hs0 : s0.heap.size = b + k0) (hr : o.2.2.2.1.length ≤ R.cells + k0) (hr2 : szK cnN o.2.2.2.1 ≤ R.slots + z0) (F : Fx b xt D cI cJ cZ cT sc p s0 m args meth c mi) (hN : Nw b xt D cI cJ cZ cT s0.heap s H locs) (hL : LR b xt la ls) (hc : cells + k0 = s.1.length) (hz : slots + z0 = szK cnN s.1) (hd : decode (mt_ mi).2.1 pc = .ok (.newarray .int, 2)) (hn : pcO mi (i + 1) = pc + 2) (h : nwA i ls st s 1 = some o) (kk : ∀ (la' : Array Slot) (H' : Heap) (locs' : List Loc) (cells' slots' : Nat), LR b xt la' o.2.1 → Nw b xt D cI cJ cZ cT s0.heap o.2.2.2 H' locs' → cells' + k0 = o.2.2.2.1.length → slots' + z0 = szK cnN o.2.2.2.1 → W p l e R s0 m args below meth c H' locs' cells' slots' Q (F0 m (pcO mi o.1) la' (o.2.2.1.map (rv b xt)))) : W p l e R s0 m args below meth c H locs cells slots Q (F0 m pc la (st.map (rv b xt))) := by
  obtain ⟨⟨hx, hb, hml, hown, hts⟩, hK, hRO, hin⟩ := F
  obtain ⟨hP, hS⟩ := hN
  have hD := wld_D b xt cI cJ cZ cT s
  obtain ⟨n, r, rfl, g1, g2, g3, rfl⟩ := inv_nwA h
  have hl : (newM s (1, n.toNatClampNeg)).1.length = s.1.length + 1 := by simp [newM]
  have hsz : szK cnN (newM s (1, n.toNatClampNeg)).1 = szK cnN s.1 + n.toNatClampNeg := by
    show szK cnN (s.1 ++ [_]) = _
    rw [szK_app]
    rfl
  have hr : (newM s (1, n.toNatClampNeg)).1.length ≤ R.cells + k0 := hr
  have hr2 : szK cnN (newM s (1, n.toNatClampNeg)).1 ≤ R.slots + z0 := hr2
  refine va_newa hx hb (atype := .int) (hts _ ac_I) rfl hK hP hD hS (fun q hq => by show b ≤ q; omega) (n := n) (a0 := (n.toNatClampNeg, .inl (fun _ => 0))) (fun cA => rfl) g1 rfl (Nat.le_trans (Nat.mul_le_mul_right _ g2) (by decide)) (by omega) (by omega) hd (fun q cA H1 q1 q2 q3 q4 => ?_)
  have hcA : cA = cI := cA_eq (ty := .int) 0 q1 rfl
  rw [hcA] at q2 q3
  refine W_up (n := s.1.length + 1) hs0 (by omega) (fun hz1 => ?_)
  obtain rfl := fresh_q q2 q3 hz1
  rw [wld_new (1, n.toNatClampNeg) (show _ = (.inl (cI, n.toNatClampNeg, .inl (fun _ => 0)) : va_E) from ?_)] at q2
  · have := kk la H1 locs (cells + 1) (slots + n.toNatClampNeg) hL ⟨q2, q4⟩ (by show _ = (newM s (1, n.toNatClampNeg)).1.length; omega) (by show _ = szK cnN (newM s (1, n.toNatClampNeg)).1; omega)
    rw [show pcO mi (i + 1) = _ from hn] at this
    have e1 : rv b xt (.ref s.1.length) = .ref (b + s.1.length) := by
      show Value.ref (adr b xt s.1.length) = _
      rw [adr_lt (by omega)]
    simp only [List.map_cons, e1] at this
    exact this
  · show Sum.inl _ = _
    congr 4
    funext q
    simp [newM]
set_option maxHeartbeats 1000000 in
theorem sh_newJ (hs0 : s0.heap.size = b + k0) (hr : o.2.2.2.1.length ≤ R.cells + k0) (hr2 : szK cnN o.2.2.2.1 ≤ R.slots + z0) (F : Fx b xt D cI cJ cZ cT sc p s0 m args meth c mi) (hN : Nw b xt D cI cJ cZ cT s0.heap s H locs) (hL : LR b xt la ls) (hc : cells + k0 = s.1.length) (hz : slots + z0 = szK cnN s.1) (hd : decode (mt_ mi).2.1 pc = .ok (.newarray .long, 2)) (hn : pcO mi (i + 1) = pc + 2) (h : nwA i ls st s 2 = some o) (kk : ∀ (la' : Array Slot) (H' : Heap) (locs' : List Loc) (cells' slots' : Nat), LR b xt la' o.2.1 → Nw b xt D cI cJ cZ cT s0.heap o.2.2.2 H' locs' → cells' + k0 = o.2.2.2.1.length → slots' + z0 = szK cnN o.2.2.2.1 → W p l e R s0 m args below meth c H' locs' cells' slots' Q (F0 m (pcO mi o.1) la' (o.2.2.1.map (rv b xt)))) : W p l e R s0 m args below meth c H locs cells slots Q (F0 m pc la (st.map (rv b xt))) := by
  obtain ⟨⟨hx, hb, hml, hown, hts⟩, hK, hRO, hin⟩ := F
  obtain ⟨hP, hS⟩ := hN
  have hD := wld_D b xt cI cJ cZ cT s
  obtain ⟨n, r, rfl, g1, g2, g3, rfl⟩ := inv_nwA h
  have hl : (newM s (2, n.toNatClampNeg)).1.length = s.1.length + 1 := by simp [newM]
  have hsz : szK cnN (newM s (2, n.toNatClampNeg)).1 = szK cnN s.1 + n.toNatClampNeg := by
    show szK cnN (s.1 ++ [_]) = _
    rw [szK_app]
    rfl
  have hr : (newM s (2, n.toNatClampNeg)).1.length ≤ R.cells + k0 := hr
  have hr2 : szK cnN (newM s (2, n.toNatClampNeg)).1 ≤ R.slots + z0 := hr2
  refine va_newa hx hb (atype := .long) (hts _ ac_J) rfl hK hP hD hS (fun q hq => by show b ≤ q; omega) (n := n) (a0 := (n.toNatClampNeg, .inr (.inl (fun _ => 0)))) (fun cA => rfl) g1 rfl (Nat.le_trans (Nat.mul_le_mul_right _ g2) (by decide)) (by omega) (by omega) hd (fun q cA H1 q1 q2 q3 q4 => ?_)
  have hcA : cA = cJ := cA_eq (ty := .long) 1 q1 rfl
  rw [hcA] at q2 q3
  refine W_up (n := s.1.length + 1) hs0 (by omega) (fun hz1 => ?_)
  obtain rfl := fresh_q q2 q3 hz1
  rw [wld_new (2, n.toNatClampNeg) (show _ = (.inl (cJ, n.toNatClampNeg, .inr (.inl (fun _ => 0))) : va_E) from ?_)] at q2
  · have := kk la H1 locs (cells + 1) (slots + n.toNatClampNeg) hL ⟨q2, q4⟩ (by show _ = (newM s (2, n.toNatClampNeg)).1.length; omega) (by show _ = szK cnN (newM s (2, n.toNatClampNeg)).1; omega)
    rw [show pcO mi (i + 1) = _ from hn] at this
    have e1 : rv b xt (.ref s.1.length) = .ref (b + s.1.length) := by
      show Value.ref (adr b xt s.1.length) = _
      rw [adr_lt (by omega)]
    simp only [List.map_cons, e1] at this
    exact this
  · show Sum.inl _ = _
    congr 5
    funext q
    simp [newM]
set_option maxHeartbeats 1000000 in
theorem sh_newZ (hs0 : s0.heap.size = b + k0) (hr : o.2.2.2.1.length ≤ R.cells + k0) (hr2 : szK cnN o.2.2.2.1 ≤ R.slots + z0) (F : Fx b xt D cI cJ cZ cT sc p s0 m args meth c mi) (hN : Nw b xt D cI cJ cZ cT s0.heap s H locs) (hL : LR b xt la ls) (hc : cells + k0 = s.1.length) (hz : slots + z0 = szK cnN s.1) (hd : decode (mt_ mi).2.1 pc = .ok (.newarray .boolean, 2)) (hn : pcO mi (i + 1) = pc + 2) (h : nwA i ls st s 3 = some o) (kk : ∀ (la' : Array Slot) (H' : Heap) (locs' : List Loc) (cells' slots' : Nat), LR b xt la' o.2.1 → Nw b xt D cI cJ cZ cT s0.heap o.2.2.2 H' locs' → cells' + k0 = o.2.2.2.1.length → slots' + z0 = szK cnN o.2.2.2.1 → W p l e R s0 m args below meth c H' locs' cells' slots' Q (F0 m (pcO mi o.1) la' (o.2.2.1.map (rv b xt)))) : W p l e R s0 m args below meth c H locs cells slots Q (F0 m pc la (st.map (rv b xt))) := by
  obtain ⟨⟨hx, hb, hml, hown, hts⟩, hK, hRO, hin⟩ := F
  obtain ⟨hP, hS⟩ := hN
  have hD := wld_D b xt cI cJ cZ cT s
  obtain ⟨n, r, rfl, g1, g2, g3, rfl⟩ := inv_nwA h
  have hl : (newM s (3, n.toNatClampNeg)).1.length = s.1.length + 1 := by simp [newM]
  have hsz : szK cnN (newM s (3, n.toNatClampNeg)).1 = szK cnN s.1 + n.toNatClampNeg := by
    show szK cnN (s.1 ++ [_]) = _
    rw [szK_app]
    rfl
  have hr : (newM s (3, n.toNatClampNeg)).1.length ≤ R.cells + k0 := hr
  have hr2 : szK cnN (newM s (3, n.toNatClampNeg)).1 ≤ R.slots + z0 := hr2
  refine va_newa hx hb (atype := .boolean) (hts _ ac_Z) rfl hK hP hD hS (fun q hq => by show b ≤ q; omega) (n := n) (a0 := (n.toNatClampNeg, .inl (fun _ => 0))) (fun cA => rfl) g1 rfl (Nat.le_trans (Nat.mul_le_mul_right _ g2) (by decide)) (by omega) (by omega) hd (fun q cA H1 q1 q2 q3 q4 => ?_)
  have hcA : cA = cZ := cA_eq (ty := .boolean) 2 q1 rfl
  rw [hcA] at q2 q3
  refine W_up (n := s.1.length + 1) hs0 (by omega) (fun hz1 => ?_)
  obtain rfl := fresh_q q2 q3 hz1
  rw [wld_new (3, n.toNatClampNeg) (show _ = (.inl (cZ, n.toNatClampNeg, .inl (fun _ => 0)) : va_E) from ?_)] at q2
  · have := kk la H1 locs (cells + 1) (slots + n.toNatClampNeg) hL ⟨q2, q4⟩ (by show _ = (newM s (3, n.toNatClampNeg)).1.length; omega) (by show _ = szK cnN (newM s (3, n.toNatClampNeg)).1; omega)
    rw [show pcO mi (i + 1) = _ from hn] at this
    have e1 : rv b xt (.ref s.1.length) = .ref (b + s.1.length) := by
      show Value.ref (adr b xt s.1.length) = _
      rw [adr_lt (by omega)]
    simp only [List.map_cons, e1] at this
    exact this
  · show Sum.inl _ = _
    congr 4
    funext q
    simp [newM]
set_option maxHeartbeats 1000000 in
theorem sh_newT {idx : Nat} (hs0 : s0.heap.size = b + k0) (hr : o.2.2.2.1.length ≤ R.cells + k0) (hr2 : szK cnN o.2.2.2.1 ≤ R.slots + z0) (hk : lkB (mt_ mi).1.cls (mt_ mi).1.name (tag, .anewarray idx, pc, len, ops, kc) = true) (F : Fx b xt D cI cJ cZ cT sc p s0 m args meth c mi) (hN : Nw b xt D cI cJ cZ cT s0.heap s H locs) (hL : LR b xt la ls) (hc : cells + k0 = s.1.length) (hz : slots + z0 = szK cnN s.1) (hd : decode (mt_ mi).2.1 pc = .ok (.anewarray idx, 3)) (hn : pcO mi (i + 1) = pc + 3) (h : nwA i ls st s 4 = some o) (kk : ∀ (la' : Array Slot) (H' : Heap) (locs' : List Loc) (cells' slots' : Nat), LR b xt la' o.2.1 → Nw b xt D cI cJ cZ cT s0.heap o.2.2.2 H' locs' → cells' + k0 = o.2.2.2.1.length → slots' + z0 = szK cnN o.2.2.2.1 → W p l e R s0 m args below meth c H' locs' cells' slots' Q (F0 m (pcO mi o.1) la' (o.2.2.1.map (rv b xt)))) : W p l e R s0 m args below meth c H locs cells slots Q (F0 m pc la (st.map (rv b xt))) := by
  obtain ⟨⟨hx, hb, hml, hown, hts⟩, hK, hRO, hin⟩ := F
  obtain ⟨hP, hS⟩ := hN
  have hD := wld_D b xt cI cJ cZ cT s
  obtain ⟨n, r, rfl, g1, g2, g3, rfl⟩ := inv_nwA h
  cases ops with
  | nil => simp [lkB, flatI] at hk
  | cons pl rest =>
    simp only [lkB, decide_eq_true_eq] at hk
    have hl : (newM s (4, n.toNatClampNeg)).1.length = s.1.length + 1 := by simp [newM]
    have hsz : szK cnN (newM s (4, n.toNatClampNeg)).1 = szK cnN s.1 + n.toNatClampNeg := by
      show szK cnN (s.1 ++ [_]) = _
      rw [szK_app]
      rfl
    have hr : (newM s (4, n.toNatClampNeg)).1.length ≤ R.cells + k0 := hr
    have hr2 : szK cnN (newM s (4, n.toNatClampNeg)).1 ≤ R.slots + z0 := hr2
    refine va_newq hx hb hown (hts _ (tbG_mem hk rfl)) hRO.2.2.2.2.2.2.2 hK hP hD hS (fun q hq => by show b ≤ q; omega) (n := n) g1 rfl (Nat.le_trans (Nat.mul_le_mul_right _ g2) (by decide)) (by omega) (by omega) hd (fun q cA H1 q1 q2 q3 q4 => ?_)
    have hcA : cA = cT := cA_eq (ty := .object "RumourRent$Text") 3 q1 rfl
    rw [hcA] at q2 q3
    refine W_up (n := s.1.length + 1) hs0 (by omega) (fun hz1 => ?_)
    obtain rfl := fresh_q q2 q3 hz1
    rw [wld_new (4, n.toNatClampNeg) (show _ = (.inl (cT, n.toNatClampNeg, .inr (.inr (.inr (.inr (fun _ => none))))) : va_E) from ?_)] at q2
    · have := kk la H1 locs (cells + 1) (slots + n.toNatClampNeg) hL ⟨q2, q4⟩ (by show _ = (newM s (4, n.toNatClampNeg)).1.length; omega) (by show _ = szK cnN (newM s (4, n.toNatClampNeg)).1; omega)
      rw [show pcO mi (i + 1) = _ from hn] at this
      have e1 : rv b xt (.ref s.1.length) = .ref (b + s.1.length) := by
        show Value.ref (adr b xt s.1.length) = _
        rw [adr_lt (by omega)]
      simp only [List.map_cons, e1] at this
      exact this
    · show Sum.inl _ = _
      congr 7
      funext q
      simp [newM]
set_option maxHeartbeats 1000000 in
theorem sh_new {idx : Nat} (hs0 : s0.heap.size = b + k0) (hr : o.2.2.2.1.length ≤ R.cells + k0) (hr2 : szK cnN o.2.2.2.1 ≤ R.slots + z0) (hk : lkB (mt_ mi).1.cls (mt_ mi).1.name (tag, .new idx, pc, len, ops, kc) = true) (F : Fx b xt D cI cJ cZ cT sc p s0 m args meth c mi) (hN : Nw b xt D cI cJ cZ cT s0.heap s H locs) (hL : LR b xt la ls) (hc : cells + k0 = s.1.length) (hz : slots + z0 = szK cnN s.1) (hd : decode (mt_ mi).2.1 pc = .ok (.new idx, 3)) (hn : pcO mi (i + 1) = pc + 3) (h : nwO i ls st s ops = some o) (kk : ∀ (la' : Array Slot) (H' : Heap) (locs' : List Loc) (cells' slots' : Nat), LR b xt la' o.2.1 → Nw b xt D cI cJ cZ cT s0.heap o.2.2.2 H' locs' → cells' + k0 = o.2.2.2.1.length → slots' + z0 = szK cnN o.2.2.2.1 → W p l e R s0 m args below meth c H' locs' cells' slots' Q (F0 m (pcO mi o.1) la' (o.2.2.1.map (rv b xt)))) : W p l e R s0 m args below meth c H locs cells slots Q (F0 m pc la (st.map (rv b xt))) := by
  obtain ⟨⟨hx, hb, hml, hown, hts⟩, hK, hRO, hin⟩ := F
  obtain ⟨hP, hS⟩ := hN
  have hD := wld_D b xt cI cJ cZ cT s
  obtain ⟨ci, r, rfl, g3, rfl⟩ := inv_nwO h
  cases r with
  | nil => simp [lkB, flatI] at hk
  | cons pl rest =>
    cases hq : vwCl[ci]? with
    | none => simp [lkB, hq] at hk
    | some q =>
      simp only [lkB, hq, decide_eq_true_eq] at hk
      obtain ⟨hin', ty0, hty, hnm, hlf, hft, hins, hini, hcn⟩ := cls_all ci q hq
      have hl : (newM s (0, ci)).1.length = s.1.length + 1 := by simp [newM]
      have hcg : cnN.getD ci 0 = q.2.2 := by rw [nthO_eq] at hcn; simp [List.getD, hcn]
      have hsz : szK cnN (newM s (0, ci)).1 = szK cnN s.1 + q.2.2 := by
        show szK cnN (s.1 ++ [_]) = _
        rw [szK_app]
        show _ + cnN.getD ci 0 = _
        rw [hcg]
      have hr : (newM s (0, ci)).1.length ≤ R.cells + k0 := hr
      have hr2 : szK cnN (newM s (0, ci)).1 ≤ R.slots + z0 := hr2
      refine va_new hx hb hts hin' ty0 hty hown (hts _ (tbG_mem hk rfl)) (hts _ hins) (hts _ hini) hK hP hD hS (fun q hq => by show b ≤ q; omega) hq (fs := flds b xt (newM s (0, ci)) s.1.length 0 (fts.getD ci [])) (fun j hj => ?_) (by omega) (by omega) hd (fun q1 H1 p1 p2 p3 => ?_)
      · have h1 := (hft j hj).1
        unfold vp_V
        rw [List.getD, flds_at, h1]
        simp only [Option.map_some, Option.getD_some, Nat.zero_add]
        have hz0 : (newM s (0, ci)).2.1 s.1.length j = 0 := by simp [newM]
        have hz1 : (newM s (0, ci)).2.2.1 s.1.length j = 0 := by simp [newM]
        have hz2 : (newM s (0, ci)).2.2.2 s.1.length j = none := by simp [newM]
        have hpd := hty j hj
        have hnb : tyT (ty0 j) ≠ 9 := by
          intro h9
          rw [h9] at h1
          have : ∀ ts ∈ fts, ∀ t ∈ ts, t ≠ 9 := by decide
          rw [nthO_eq] at h1
          have hm := List.mem_of_getElem? h1
          by_cases hcf : ci < fts.length
          · exact this _ (by rw [List.getD_eq_getElem?_getD, List.getElem?_eq_getElem hcf]; exact List.getElem_mem hcf) 9 hm rfl
          · rw [List.getD_eq_getElem?_getD, List.getElem?_eq_none (by omega)] at hm
            simp at hm
        cases hy : ty0 j <;> simp_all [tyT, fldV, defaultValue, va_rf]
      · refine W_up (n := s.1.length + 1) hs0 (by omega) (fun hz1 => ?_)
        obtain rfl := fresh_q p1 p2 hz1
        rw [wld_new (0, ci) (show _ = (.inr (ci, flds b xt (newM s (0, ci)) s.1.length 0 (fts.getD ci [])) : va_E) from rfl)] at p1
        have := kk la H1 locs (cells + 1) (slots + q.2.2) hL ⟨p1, p3⟩ (by show _ = (newM s (0, ci)).1.length; omega) (by show _ = szK cnN (newM s (0, ci)).1; omega)
        rw [show pcO mi (i + 1) = _ from hn] at this
        have e1 : rv b xt (.ref s.1.length) = .ref (b + s.1.length) := by
          show Value.ref (adr b xt s.1.length) = _
          rw [adr_lt (by omega)]
        simp only [List.map_cons, e1] at this
        exact this
set_option maxHeartbeats 1000000 in
theorem sh_copy {idx : Nat} (hll : ls.length = (mt_ mi).2.2.1) (hr : s.1.length ≤ R.cells + k0) (hr2 : szK cnN s.1 ≤ R.slots + z0) (hfr : 1 ≤ R.frames ∧ 60 ≤ R.locals) (hk : lkB (mt_ mi).1.cls (mt_ mi).1.name (tag, .invokestatic idx, pc, len, ops, kc) = true) (F : Fx b xt D cI cJ cZ cT sc p s0 m args meth c mi) (hN : Nw b xt D cI cJ cZ cT s0.heap s H locs) (hL : LR b xt la ls) (hc : cells + k0 = s.1.length) (hz : slots + z0 = szK cnN s.1) (hd : decode (mt_ mi).2.1 pc = .ok (.invokestatic idx, 3)) (hn : pcO mi (i + 1) = pc + 3) (h : pmS i ls st s ops = some o) (kk : ∀ (la' : Array Slot) (H' : Heap) (locs' : List Loc) (cells' slots' : Nat), LR b xt la' o.2.1 → Nw b xt D cI cJ cZ cT s0.heap o.2.2.2 H' locs' → cells' + k0 = o.2.2.2.1.length → slots' + z0 = szK cnN o.2.2.2.1 → W p l e R s0 m args below meth c H' locs' cells' slots' Q (F0 m (pcO mi o.1) la' (o.2.2.1.map (rv b xt)))) : W p l e R s0 m args below meth c H locs cells slots Q (F0 m pc la (st.map (rv b xt))) := by
  obtain ⟨⟨hx, hb, hml, hown, hts⟩, hK, hRO, hin⟩ := F
  obtain ⟨hP, hS⟩ := hN
  have hD := wld_D b xt cI cJ cZ cT s
  obtain ⟨pr, rest, rfl, hpr⟩ := inv_pmS h
  cases rest with
  | nil => simp [lkB, flatI] at hk
  | cons pl rest =>
  simp only [lkB, decide_eq_true_eq] at hk
  have hmm : c.maxLocals = la.size := by rw [hml, ← hll]; exact hL.1.symm
  have hce : cells ≤ R.cells := by have := hr; omega
  have hse : slots ≤ R.slots := by have := hr2; omega
  rcases hpr with ⟨rfl, h⟩ | ⟨rfl, h⟩ | ⟨rfl, h⟩ | ⟨rfl, h⟩ | ⟨rfl, h⟩
  rotate_left
  · obtain ⟨x, y, r, rfl, g3, rfl⟩ := inv_mxI h
    have hcat : ((r.map (rv b xt)).map fun v => v.category).sum ≤ 8 := by rw [rv_cats]; exact g3
    refine va_mmax hx hb hmm hown (hts _ (tbG_mem hk rfl)) (hts _ mmax_sta) (hts _ mm_ini) (hts _ mmax_cod) hfr.1 (by omega) hce hse hd ?_
    have := kk la H locs cells slots hL ⟨hP, hS⟩ hc hz
    rw [show pcO mi (i + 1) = _ from hn] at this
    exact this
  · obtain ⟨x, y, r, rfl, g3, rfl⟩ := inv_mxI h
    have hcat : ((r.map (rv b xt)).map fun v => v.category).sum ≤ 8 := by rw [rv_cats]; exact g3
    refine va_mmin hx hb hmm hown (hts _ (tbG_mem hk rfl)) (hts _ mmin_sta) (hts _ mm_ini) (hts _ mmin_cod) hfr.1 (by omega) hce hse hd ?_
    have := kk la H locs cells slots hL ⟨hP, hS⟩ hc hz
    rw [show pcO mi (i + 1) = _ from hn] at this
    exact this
  · obtain ⟨x, y, r, rfl, g3, rfl⟩ := inv_mxJ h
    have hcat : ((r.map (rv b xt)).map fun v => v.category).sum ≤ 8 := by rw [rv_cats]; exact g3
    refine va_mmax_long hx hb hmm hown (hts _ (tbG_mem hk rfl)) (hts _ mmaxJ_sta) (hts _ mm_ini) (hts _ mmaxJ_cod) hfr.1 (by omega) hce hse hd ?_
    have := kk la H locs cells slots hL ⟨hP, hS⟩ hc hz
    rw [show pcO mi (i + 1) = _ from hn] at this
    exact this
  · obtain ⟨x, y, r, rfl, g3, rfl⟩ := inv_mxJ h
    have hcat : ((r.map (rv b xt)).map fun v => v.category).sum ≤ 8 := by rw [rv_cats]; exact g3
    refine va_mmin_long hx hb hmm hown (hts _ (tbG_mem hk rfl)) (hts _ mminJ_sta) (hts _ mm_ini) (hts _ mminJ_cod) hfr.1 (by omega) hce hse hd ?_
    have := kk la H locs cells slots hL ⟨hP, hS⟩ hc hz
    rw [show pcO mi (i + 1) = _ from hn] at this
    exact this
  obtain ⟨n, dp, c1, sp, c0, r, n0, n1, rfl, g1, g2, g3, g4, g5, g6, g7, g8, g9, g10, rfl⟩ := inv_cpA h
  show W p l e R s0 m args below meth c H locs cells slots Q (F0 m pc la (.int n :: .int dp :: .ref (adr b xt c1) :: .int sp :: .ref (adr b xt c0) :: r.map (rv b xt)))
  rw [adr_lt g1, adr_lt g2]
  have hcat : ((r.map (rv b xt)).map fun v => v.category).sum ≤ 8 := by rw [rv_cats]; exact g3
  refine va_copyi hx hb hmm hown (hts _ (tbG_mem hk rfl)) (hts _ cp_nat) (hts _ cp_sta) (hts _ cp_ini) hK hP hD hS c0 c1 0 0 (show _ = some (b + c0, (.inl (cI, n0, .inl (s.2.1 c0)) : va_E)) from wld_at b xt cI cJ cZ cT g4) (show _ = some (b + c1, (.inl (cI, n1, .inl (s.2.1 c1)) : va_E)) from wld_at b xt cI cJ cZ cT g5) rfl rfl rfl g6 g7 g8 g9 g10 (fun _ _ => rfl) hfr.1 (Nat.le_trans (Nat.add_le_add hcat (show _ ≤ 18 by decide)) (by omega)) hd (fun H1 locs1 q1 _ q3 => ?_)
  rw [wld_set b xt cI cJ cZ cT (s' := upC s c0 c1 sp.toNatClampNeg dp.toNatClampNeg n.toNatClampNeg) g5 rfl (show _ = (.inl (cI, n1, .inl (va_cpy (s.2.1 c0) (s.2.1 c1) sp.toNatClampNeg dp.toNatClampNeg n.toNatClampNeg)) : va_E) from ?_) (fun c' k' h => ent_upC c' k' h)] at q1
  · have := kk la H1 locs1 cells slots hL ⟨q1, q3⟩ hc hz
    rw [show pcO mi (i + 1) = _ from hn] at this
    exact this
  · show Sum.inl _ = _
    congr 4
    funext q
    simp [upC, va_cpy]
set_option maxHeartbeats 1000000 in
theorem sh_obj {idx : Nat} (hll : ls.length = (mt_ mi).2.2.1) (hfr : 1 ≤ R.frames ∧ 60 ≤ R.locals) (hk : lkB (mt_ mi).1.cls (mt_ mi).1.name (tag, .invokespecial idx, pc, len, ops, kc) = true) (F : Fx b xt D cI cJ cZ cT sc p s0 m args meth c mi) (hN : Nw b xt D cI cJ cZ cT s0.heap s H locs) (hL : LR b xt la ls) (hc : cells + k0 = s.1.length) (hz : slots + z0 = szK cnN s.1) (hd : decode (mt_ mi).2.1 pc = .ok (.invokespecial idx, 3)) (hn : pcO mi (i + 1) = pc + 3) (h : obI i ls st s = some o) (kk : ∀ (la' : Array Slot) (H' : Heap) (locs' : List Loc) (cells' slots' : Nat), LR b xt la' o.2.1 → Nw b xt D cI cJ cZ cT s0.heap o.2.2.2 H' locs' → cells' + k0 = o.2.2.2.1.length → slots' + z0 = szK cnN o.2.2.2.1 → W p l e R s0 m args below meth c H' locs' cells' slots' Q (F0 m (pcO mi o.1) la' (o.2.2.1.map (rv b xt)))) : W p l e R s0 m args below meth c H locs cells slots Q (F0 m pc la (st.map (rv b xt))) := by
  obtain ⟨⟨hx, hb, hml, hown, hts⟩, hK, hRO, hin⟩ := F
  obtain ⟨hP, hS⟩ := hN
  have hD := wld_D b xt cI cJ cZ cT s
  obtain ⟨a, r, rfl, g3, rfl⟩ := inv_obI h
  rcases ops with _ | ⟨pr, _ | ⟨pl, rest⟩⟩
  · simp [lkB, flatI] at hk
  · simp [lkB, flatI] at hk
  simp only [lkB, decide_eq_true_eq] at hk
  have hcat : ((r.map (rv b xt)).map fun v => v.category).sum ≤ 8 := by rw [rv_cats]; exact g3
  refine W.objInit hx hb hown (hts _ (tbG_mem hk.2 rfl)) (hts _ ob_ins) (hts _ ob_cod) rfl (by rw [hml, ← hll]; exact hL.1) (a := adr b xt a) (rest := r.map (rv b xt)) rfl hd hfr.1 (by show 2 * 0 + _ + 12 ≤ _; omega) ?_
  have := kk la H locs cells slots hL ⟨hP, hS⟩ hc hz
  rw [show pcO mi (i + 1) = _ from hn] at this
  exact this
set_option maxHeartbeats 1000000 in
theorem sh_gets {idx : Nat} (hk : lkB (mt_ mi).1.cls (mt_ mi).1.name (tag, .getstatic idx, pc, len, ops, kc) = true) (F : Fx b xt D cI cJ cZ cT sc p s0 m args meth c mi) (hN : Nw b xt D cI cJ cZ cT s0.heap s H locs) (hL : LR b xt la ls) (hc : cells + k0 = s.1.length) (hz : slots + z0 = szK cnN s.1) (hd : decode (mt_ mi).2.1 pc = .ok (.getstatic idx, 3)) (hn : pcO mi (i + 1) = pc + 3) (h : gS i ls st s ops = some o) (kk : ∀ (la' : Array Slot) (H' : Heap) (locs' : List Loc) (cells' slots' : Nat), LR b xt la' o.2.1 → Nw b xt D cI cJ cZ cT s0.heap o.2.2.2 H' locs' → cells' + k0 = o.2.2.2.1.length → slots' + z0 = szK cnN o.2.2.2.1 → W p l e R s0 m args below meth c H' locs' cells' slots' Q (F0 m (pcO mi o.1) la' (o.2.2.1.map (rv b xt)))) : W p l e R s0 m args below meth c H locs cells slots Q (F0 m pc la (st.map (rv b xt))) := by
  obtain ⟨⟨hx, hb, hml, hown, hts⟩, hK, hRO, hin⟩ := F
  obtain ⟨hP, hS⟩ := hN
  have hD := wld_D b xt cI cJ cZ cT s
  rcases ops with _ | ⟨x, _ | ⟨pl, rest⟩⟩
  · cases h
  · simp [lkB, flatI] at hk
  simp only [lkB] at hk
  have h : (if x = 1010 then puV i ls st s (.int 1) else if x = 1009 then puV i ls st s (.retAddr 0) else if 1000 < x ∧ x < 1005 then puV i ls st s (.ref x) else none) = some o := h
  by_cases h1 : x = 1010
  · rw [if_pos h1] at hk
    rw [if_pos h1] at h
    obtain rfl := Option.some.inj h
    simp only [decide_eq_true_eq] at hk
    refine va_gets hx hb hRO.2.2.2.2.1 hS hown (hts _ (tbG_mem hk rfl)) (fun _ h => h) hd ?_
    have := kk la H locs cells slots hL ⟨hP, hS⟩ hc hz
    rw [show pcO mi (i + 1) = _ from hn] at this
    exact this
  · rw [if_neg h1] at hk
    rw [if_neg h1] at h
    by_cases h2 : x = 1009
    · rw [if_pos h2] at hk h
      obtain rfl := Option.some.inj h
      simp only [decide_eq_true_eq] at hk
      refine va_gets hx hb hRO.2.2.2.2.2.1 hS hown (hts _ (tbG_mem hk rfl)) (fun _ h => h) hd ?_
      have := kk la H locs cells slots hL ⟨hP, hS⟩ hc hz
      rw [show pcO mi (i + 1) = _ from hn] at this
      exact this
    · rw [if_neg h2] at hk h
      simp only [decide_eq_true_eq] at hk
      rw [if_pos ⟨hk.1, hk.2.1⟩] at h
      obtain rfl := Option.some.inj h
      have hZ := (hRO.2.1 (x - 1001) (by omega)).1
      have hw := hRO.2.2.2.2.2.2.1 _ (List.mem_of_getElem? hk.2.2) rfl
      refine va_getsN hx hb hZ hS hown (va_Nw.use rfl hw) (fun _ h => h) hd ?_
      have := kk la H locs cells slots hL ⟨hP, hS⟩ hc hz
      rw [show pcO mi (i + 1) = _ from hn] at this
      have e1 : rv b xt (.ref x) = .ref (xt (1 + (x - 1001))) := by
        show Value.ref (adr b xt x) = _
        rw [adr_ge (by omega), show x - 1000 = 1 + (x - 1001) by omega]
      simp only [List.map_cons, e1] at this
      exact this
set_option maxHeartbeats 1000000 in
theorem sh_ldc {idx : Nat} (hk : lkB (mt_ mi).1.cls (mt_ mi).1.name (tag, .ldc idx, pc, len, ops, kc) = true) (F : Fx b xt D cI cJ cZ cT sc p s0 m args meth c mi) (hN : Nw b xt D cI cJ cZ cT s0.heap s H locs) (hL : LR b xt la ls) (hc : cells + k0 = s.1.length) (hz : slots + z0 = szK cnN s.1) (hd : decode (mt_ mi).2.1 pc = .ok (.ldc idx, 2)) (hn : pcO mi (i + 1) = pc + 2) (h : ldS i ls st s ops kc = some o) (kk : ∀ (la' : Array Slot) (H' : Heap) (locs' : List Loc) (cells' slots' : Nat), LR b xt la' o.2.1 → Nw b xt D cI cJ cZ cT s0.heap o.2.2.2 H' locs' → cells' + k0 = o.2.2.2.1.length → slots' + z0 = szK cnN o.2.2.2.1 → W p l e R s0 m args below meth c H' locs' cells' slots' Q (F0 m (pcO mi o.1) la' (o.2.2.1.map (rv b xt)))) : W p l e R s0 m args below meth c H locs cells slots Q (F0 m pc la (st.map (rv b xt))) := by
  obtain ⟨⟨hx, hb, hml, hown, hts⟩, hK, hRO, hin⟩ := F
  obtain ⟨hP, hS⟩ := hN
  have hD := wld_D b xt cI cJ cZ cT s
  rcases ops with _ | ⟨_ | _ | t, rest⟩
  · cases h
  · obtain rfl := Option.some.inj h
    cases rest with
    | nil => simp [lkB, flatI] at hk
    | cons pl rest =>
      simp only [lkB, decide_eq_true_eq] at hk
      refine lv_ldc hx hb hown (hts _ (tbG_mem hk rfl)) hd ?_
      have := kk la H locs cells slots hL ⟨hP, hS⟩ hc hz
      rw [show pcO mi (i + 1) = _ from hn] at this
      exact this
  · cases rest with
    | nil => cases h
    | cons x rest =>
      simp only [lkB, decide_eq_true_eq] at hk
      obtain ⟨k1, k2, k3⟩ := hk
      have h : (if x = 1005 ∨ x = 1006 then puV i ls st s (.ref x) else none) = some o := h
      rw [if_pos k2] at h
      obtain rfl := Option.some.inj h
      have hZ := hRO.2.2.2.1 (x - 1005) (by omega)
      rw [← k3, ← k1] at hZ
      refine va_ldcS hx hb hown hZ hd ?_
      have := kk la H locs cells slots hL ⟨hP, hS⟩ hc hz
      rw [show pcO mi (i + 1) = _ from hn] at this
      have e1 : rv b xt (.ref x) = .ref (xt (5 + (x - 1005))) := by
        show Value.ref (adr b xt x) = _
        rw [adr_ge (by omega), show x - 1000 = 5 + (x - 1005) by omega]
      simp only [List.map_cons, e1] at this
      exact this
  · cases h
set_option maxHeartbeats 1000000 in
theorem sh_ldcw {idx : Nat} (hk : lkB (mt_ mi).1.cls (mt_ mi).1.name (tag, .ldc_w idx, pc, len, ops, kc) = true) (F : Fx b xt D cI cJ cZ cT sc p s0 m args meth c mi) (hN : Nw b xt D cI cJ cZ cT s0.heap s H locs) (hL : LR b xt la ls) (hc : cells + k0 = s.1.length) (hz : slots + z0 = szK cnN s.1) (hd : decode (mt_ mi).2.1 pc = .ok (.ldc_w idx, 3)) (hn : pcO mi (i + 1) = pc + 3) (h : puV i ls st s (.int (Int32.ofInt kc)) = some o) (kk : ∀ (la' : Array Slot) (H' : Heap) (locs' : List Loc) (cells' slots' : Nat), LR b xt la' o.2.1 → Nw b xt D cI cJ cZ cT s0.heap o.2.2.2 H' locs' → cells' + k0 = o.2.2.2.1.length → slots' + z0 = szK cnN o.2.2.2.1 → W p l e R s0 m args below meth c H' locs' cells' slots' Q (F0 m (pcO mi o.1) la' (o.2.2.1.map (rv b xt)))) : W p l e R s0 m args below meth c H locs cells slots Q (F0 m pc la (st.map (rv b xt))) := by
  obtain ⟨⟨hx, hb, hml, hown, hts⟩, hK, hRO, hin⟩ := F
  obtain ⟨hP, hS⟩ := hN
  have hD := wld_D b xt cI cJ cZ cT s
  obtain rfl := Option.some.inj h
  rcases ops with _ | ⟨_ | t, _ | ⟨pl, rest⟩⟩
  · simp [lkB, flatI] at hk
  · simp [lkB, flatI] at hk
  · simp only [lkB, decide_eq_true_eq] at hk
    refine lv_ldcw hx hb hown (hts _ (tbG_mem hk rfl)) hd ?_
    have := kk la H locs cells slots hL ⟨hP, hS⟩ hc hz
    rw [show pcO mi (i + 1) = _ from hn] at this
    exact this
  · simp [lkB, flatI] at hk
  · simp [lkB, flatI] at hk
set_option maxHeartbeats 1000000 in
theorem sh_ldc2 {idx : Nat} (hk : lkB (mt_ mi).1.cls (mt_ mi).1.name (tag, .ldc2_w idx, pc, len, ops, kc) = true) (F : Fx b xt D cI cJ cZ cT sc p s0 m args meth c mi) (hN : Nw b xt D cI cJ cZ cT s0.heap s H locs) (hL : LR b xt la ls) (hc : cells + k0 = s.1.length) (hz : slots + z0 = szK cnN s.1) (hd : decode (mt_ mi).2.1 pc = .ok (.ldc2_w idx, 3)) (hn : pcO mi (i + 1) = pc + 3) (h : puV i ls st s (.long (Int64.ofInt kc)) = some o) (kk : ∀ (la' : Array Slot) (H' : Heap) (locs' : List Loc) (cells' slots' : Nat), LR b xt la' o.2.1 → Nw b xt D cI cJ cZ cT s0.heap o.2.2.2 H' locs' → cells' + k0 = o.2.2.2.1.length → slots' + z0 = szK cnN o.2.2.2.1 → W p l e R s0 m args below meth c H' locs' cells' slots' Q (F0 m (pcO mi o.1) la' (o.2.2.1.map (rv b xt)))) : W p l e R s0 m args below meth c H locs cells slots Q (F0 m pc la (st.map (rv b xt))) := by
  obtain ⟨⟨hx, hb, hml, hown, hts⟩, hK, hRO, hin⟩ := F
  obtain ⟨hP, hS⟩ := hN
  have hD := wld_D b xt cI cJ cZ cT s
  obtain rfl := Option.some.inj h
  rcases ops with _ | ⟨_ | t, _ | ⟨pl, rest⟩⟩
  · simp [lkB, flatI] at hk
  · simp [lkB, flatI] at hk
  · simp only [lkB, decide_eq_true_eq] at hk
    refine lv_ldc2 hx hb hown (hts _ (tbG_mem hk rfl)) hd ?_
    have := kk la H locs cells slots hL ⟨hP, hS⟩ hc hz
    rw [show pcO mi (i + 1) = _ from hn] at this
    exact this
  · simp [lkB, flatI] at hk
  · simp [lkB, flatI] at hk
end Heap2
