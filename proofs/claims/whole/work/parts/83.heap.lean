/-! what is only read, and the cells, on the real machine -/
def lenTB : List Nat := [224, 11]
theorem lenTB_ok : ∀ i, i < 2 → lenTB.getD i 0 = (roTB.getD i []).length := by decide +kernel
section Ctx
variable (b : Nat) (xt : Nat → Nat) (D : va_G) (cI cJ cZ cT : ClassId) (sc : Sc)
def RO (U : State) (H : Heap) : Prop :=
  (va_X (xt 0) sc.1 sc.2 U H ∧ xt 0 < H.size ∧ xt 0 < b) ∧
  (∀ j, j < 4 → va_Z "RumourRent" (stN.getD j "") "[I" (.ref (xt (1 + j))) (fun q => b ≤ q) U H ∧ va_T .int (xt (1 + j)) (roT.getD j []).length (fun k => .int ((roT.getD j []).getD k 0)) (fun q => b ≤ q) U H) ∧
  vk_S 2 lenTB roTB (fun i => xt (5 + i)) (fun i => xt (7 + i)) (fun q => b ≤ q) U H ∧
  (∀ j, j < 2 → vk_R "RumourRent$Reader" (skI.getD j 0) (skT.getD j "") (xt (5 + j)) U) ∧
  va_Z "java/lang/String" "COMPACT_STRINGS" "Z" (.int 1) (fun q => b ≤ q) U H ∧
  va_Z "jdk/internal/util/Preconditions" "SIOOBE_FORMATTER" "Ljava/util/function/BiFunction;" (rv b xt (.retAddr 0)) (fun q => b ≤ q) U H ∧
  (∀ w ∈ lw_tbl, nestW w = true → va_Nw w U) ∧ va_AO "RumourRent$Text" U
theorem RO.go {s0 U : State} {locs : List Loc} (h : RO b xt sc s0 s0.heap) (hW : s0.WarmedH U.vm) (hS : va_S (fun q => b ≤ q) s0.heap U.heap locs) : RO b xt sc U U.heap := by
  obtain ⟨⟨x1, x2, x3⟩, h2, h3, h4, h5, h6, h7, h8⟩ := h
  have hk : ∀ a : Nat, a < s0.heap.size → ¬ b ≤ a → U.heap[a]? = s0.heap[a]? := hS.2.1
  refine ⟨⟨va_X.kept (va_X.moved hW.alike x1) (hk _ x2 (by omega)), Nat.lt_of_lt_of_le x2 hS.1, x3⟩, fun j hj => ⟨((h2 j hj).1.moved hW.alike).kept hk, ((h2 j hj).2.moved hW.alike).kept hk⟩, (h3.moved hW.alike).kept hk, fun j hj => (h4 j hj).warm hW, (h5.moved hW.alike).kept hk, (h6.moved hW.alike).kept hk, fun w hw hn => ?_, h8.moved hW.alike⟩
  have h9 := h7 w hw hn
  cases w <;> first | exact va_Nw.warmF hW h9 | exact va_Nw.warmM hW h9 | (simp [nestW] at hn; done)
/-- what holds in a body: the machine, the code, the words, the kinds, what is only read -/
def Fx (p : Program) (s0 : State) (m : MethodId) (args : Array Value) (meth : Method) (c : Code) (mi : Nat) : Prop :=
  (p.tables.exec = Jvm.exec ∧ c.code = (mt_ mi).2.1 ∧ c.maxLocals = (mt_ mi).2.2.1 ∧ s0.vm.findClass (mt_ mi).1.cls = some m.cls ∧ ∀ w ∈ tbG, w.before args s0 = true) ∧ va_K D vwCl (tysM cI cJ cZ cT) s0 ∧ RO b xt sc s0 s0.heap ∧ ((mt_ mi).1.name = "<init>" → meth.name = "<init>")
def Nw (H0 : Heap) (s : Mm) (H : Heap) (locs : List Loc) : Prop := va_P D vwCl (wld b xt cI cJ cZ cT s) H ∧ va_S (fun q => b ≤ q) H0 H locs
end Ctx
theorem ent_upI {b : Nat} {xt : Nat → Nat} {cI cJ cZ cT : ClassId} {s : Mm} {c k : Nat} {x : Int32} (c' : Nat) (k' : Nat × Nat) (h : c' ≠ c) : ent b xt cI cJ cZ cT (upI s c k x) c' k' = ent b xt cI cJ cZ cT s c' k' := by
  have h1 : (upI s c k x).2.1 c' = s.2.1 c' := by funext j; simp [upI, h]
  have hf : ∀ (ts : List Nat) (q : Nat), flds b xt (upI s c k x) c' q ts = flds b xt s c' q ts := by
    intro ts
    induction ts with
    | nil => intro q; rfl
    | cons t ts ih => intro q; simp only [flds, ih]; congr 1; simp only [fldV, h1]; rfl
  unfold ent
  simp only [hf, h1]
  rfl
theorem ent_upC {b : Nat} {xt : Nat → Nat} {cI cJ cZ cT : ClassId} {s : Mm} {c0 c sp dp n : Nat} (c' : Nat) (k' : Nat × Nat) (h : c' ≠ c) : ent b xt cI cJ cZ cT (upC s c0 c sp dp n) c' k' = ent b xt cI cJ cZ cT s c' k' := by
  have h1 : (upC s c0 c sp dp n).2.1 c' = s.2.1 c' := by funext j; simp [upC, h]
  have hf : ∀ (ts : List Nat) (q : Nat), flds b xt (upC s c0 c sp dp n) c' q ts = flds b xt s c' q ts := by
    intro ts
    induction ts with
    | nil => intro q; rfl
    | cons t ts ih => intro q; simp only [flds, ih]; congr 1; simp only [fldV, h1]; rfl
  unfold ent
  simp only [hf, h1]
  rfl
theorem ent_upJ {b : Nat} {xt : Nat → Nat} {cI cJ cZ cT : ClassId} {s : Mm} {c k : Nat} {x : Int64} (c' : Nat) (k' : Nat × Nat) (h : c' ≠ c) : ent b xt cI cJ cZ cT (upJ s c k x) c' k' = ent b xt cI cJ cZ cT s c' k' := by
  have h1 : (upJ s c k x).2.2.1 c' = s.2.2.1 c' := by funext j; simp [upJ, h]
  have hf : ∀ (ts : List Nat) (q : Nat), flds b xt (upJ s c k x) c' q ts = flds b xt s c' q ts := by
    intro ts
    induction ts with
    | nil => intro q; rfl
    | cons t ts ih => intro q; simp only [flds, ih]; congr 1; simp only [fldV, h1]; rfl
  unfold ent
  simp only [hf, h1]
  rfl
theorem ent_upR {b : Nat} {xt : Nat → Nat} {cI cJ cZ cT : ClassId} {s : Mm} {c k : Nat} {x : Option Nat} (c' : Nat) (k' : Nat × Nat) (h : c' ≠ c) : ent b xt cI cJ cZ cT (upR s c k x) c' k' = ent b xt cI cJ cZ cT s c' k' := by
  have h1 : (upR s c k x).2.2.2 c' = s.2.2.2 c' := by funext j; simp [upR, h]
  have hf : ∀ (ts : List Nat) (q : Nat), flds b xt (upR s c k x) c' q ts = flds b xt s c' q ts := by
    intro ts
    induction ts with
    | nil => intro q; rfl
    | cons t ts ih => intro q; simp only [flds, ih]; congr 1; simp only [fldV, h1]; rfl
  unfold ent
  simp only [hf, h1]
  rfl
theorem rv_fld {b : Nat} {xt : Nat → Nat} (s : Mm) (c k t : Nat) : rv b xt (fldA s c k t) = fldV b xt s c k t := by
  unfold fldA fldV
  split
  · rfl
  · cases s.2.2.2 c k <;> rfl
  · rename_i h1 h2
    split
    · exact absurd rfl h1
    · exact absurd rfl h2
    · rfl
theorem rv_valR {b : Nat} {xt : Nat → Nat} (o : Option Nat) : rv b xt (valR o) = va_rf (o.map (adr b xt)) := by cases o <;> rfl
/-- what is put: on the real machine it fits, and the cell is the new one -/
theorem put_ok {b : Nat} {xt : Nat → Nat} {cI cJ cZ cT : ClassId} {s s' : Mm} {c k t ci : Nat} {v : Value} {ty : FieldType} (h : putA s c k t v s') (ht : nthO (fts.getD ci []) k = some t) (hty : tyT ty = t) : narrow ty (rv b xt v) = rv b xt v ∧ fits ty (rv b xt v) = true ∧ s'.1 = s.1 ∧ ent b xt cI cJ cZ cT s' c (0, ci) = .inr (ci, (flds b xt s c 0 (fts.getD ci [])).set k (rv b xt v)) ∧ ∀ (c' : Nat) (k' : Nat × Nat), c' ≠ c → ent b xt cI cJ cZ cT s' c' k' = ent b xt cI cJ cZ cT s c' k' := by
  rcases h with ⟨rfl, x, rfl, rfl⟩ | ⟨rfl, x, rfl, hx, rfl⟩ | ⟨rfl, x, rfl, rfl⟩ | ⟨rfl, a, rfl, -, rfl⟩
  · cases ty <;> simp [tyT] at hty
    refine ⟨rfl, rfl, rfl, ?_, fun c' k' h => ent_upI c' k' h⟩
    show Sum.inr _ = _
    rw [flds_set b xt (s' := upI s c k x) ht (by simp [fldV, upI, rv]) (fun j' t' hj => by simp [fldV, upI, hj])]
  · cases ty <;> simp [tyT] at hty
    refine ⟨?_, ?_, rfl, ?_, fun c' k' h => ent_upI c' k' h⟩
    · rcases hx with rfl | rfl <;> rfl
    · rcases hx with rfl | rfl <;> rfl
    show Sum.inr _ = _
    rw [flds_set b xt (s' := upI s c k x) ht (by simp [fldV, upI, rv]) (fun j' t' hj => by simp [fldV, upI, hj])]
  · cases ty <;> simp [tyT] at hty
    refine ⟨rfl, rfl, rfl, ?_, fun c' k' h => ent_upJ c' k' h⟩
    show Sum.inr _ = _
    rw [flds_set b xt (s' := upJ s c k x) ht (by simp [fldV, upJ, rv]) (fun j' t' hj => by simp [fldV, upJ, hj])]
  · refine ⟨?_, ?_, rfl, ?_, fun c' k' h => ent_upR c' k' h⟩
    · cases ty <;> simp [tyT] at hty <;> rfl
    · cases ty <;> simp [tyT] at hty <;> rfl
    show Sum.inr _ = _
    rw [flds_set b xt (s' := upR s c k (some a)) ht (by simp [fldV, upR, rv, va_rf]) (fun j' t' hj => by simp [fldV, upR, hj])]
section Heap1
variable {p : Program} {l : Launch} {e : Env} {R : Room} {s0 : State} {m : MethodId} {args : Array Value} {below : List Frame} {meth : Method} {c : Code} {Q : State → Prop} {H : Heap} {locs : List Loc} {cells slots k0 z0 : Nat}
variable {b : Nat} {xt : Nat → Nat} {D : va_G} {cI cJ cZ cT : ClassId} {sc : Sc} {la : Array Slot} {ls : Lo} {st : List Value} {s : Mm} {mi i tag pc len : Nat} {ops : List Nat} {kc : Int} {o : Nat × Lo × List Value × Mm}
theorem adr_lt {a : Nat} (h : a < 1000) : adr b xt a = b + a := if_pos h
theorem adr_ge {a : Nat} (h : ¬ a < 1000) : adr b xt a = xt (a - 1000) := if_neg h

set_option maxHeartbeats 1000000 in
theorem sh_getfield {idx : Nat} (hk : lkB (mt_ mi).1.cls (mt_ mi).1.name (tag, .getfield idx, pc, len, ops, kc) = true) (F : Fx b xt D cI cJ cZ cT sc p s0 m args meth c mi) (hN : Nw b xt D cI cJ cZ cT s0.heap s H locs) (hL : LR b xt la ls) (hc : cells + k0 = s.1.length) (hz : slots + z0 = szK cnN s.1) (hd : decode (mt_ mi).2.1 pc = .ok (.getfield idx, 3)) (hn : pcO mi (i + 1) = pc + 3) (h : gF i ls st s ops = some o) (kk : ∀ (la' : Array Slot) (H' : Heap) (locs' : List Loc) (cells' slots' : Nat), LR b xt la' o.2.1 → Nw b xt D cI cJ cZ cT s0.heap o.2.2.2 H' locs' → cells' + k0 = o.2.2.2.1.length → slots' + z0 = szK cnN o.2.2.2.1 → W p l e R s0 m args below meth c H' locs' cells' slots' Q (F0 m (pcO mi o.1) la' (o.2.2.1.map (rv b xt)))) : W p l e R s0 m args below meth c H locs cells slots Q (F0 m pc la (st.map (rv b xt))) := by
  obtain ⟨⟨hx, hb, hml, hown, hts⟩, hK, hRO, hin⟩ := F
  obtain ⟨hP, hS⟩ := hN
  have hD := wld_D b xt cI cJ cZ cT s
  obtain ⟨cl, r, ci, k, t, rest, rfl, rfl, ⟨h1, h2, rfl⟩ | ⟨h1, rfl, v, h2, rfl⟩⟩ := inv_gF h
  · obtain ⟨q, hq, -⟩ := hP cl _ (wld_at b xt cI cJ cZ cT h2)
    cases rest with
    | nil => simp [lkB, flatI] at hk
    | cons pl rest =>
      have hq : vwCl[ci]? = some q := hq
      simp only [lkB, hq, Bool.and_eq_true, decide_eq_true_eq] at hk
      obtain ⟨⟨hk1, hk2⟩, hk3⟩ := hk
      obtain ⟨hin', ty0, hty, hnm, hlf, hft, hins, hini, hcn⟩ := cls_all ci q hq
      show W p l e R s0 m args below meth c H locs cells slots Q (F0 m pc la (.ref (adr b xt cl) :: r.map (rv b xt)))
      rw [adr_lt h1]
      refine va_get hx hb hts hin' hown hK hP cl (wld_at b xt cI cJ cZ cT h2) hq k hk1 (hts _ (tbG_mem hk2 rfl)) (fun _ h => h) (v := fldV b xt s cl k t) (by rw [flds_at, hk3]; simp) hd ?_
      have := kk la H locs cells slots hL ⟨hP, hS⟩ hc hz
      rw [show pcO mi (i + 1) = _ from hn] at this
      simp only [List.map_cons, rv_fld] at this
      exact this
  · cases rest with
    | nil => simp [lkB, flatI] at hk
    | cons pl rest =>
      have hq : vwCl[100]? = none := rfl
      simp only [lkB, hq, Bool.and_eq_true, decide_eq_true_eq] at hk
      unfold roF at h2
      split at h2
      · rename_i hcl
        show W p l e R s0 m args below meth c H locs cells slots Q (F0 m pc la (.ref (adr b xt cl) :: r.map (rv b xt)))
        rw [adr_ge h1, show cl - 1000 = 5 + (cl - 1005) by omega]
        have hE := hRO.2.2.1.1 (cl - 1005) (by omega)
        split at h2
        · rename_i hk0
          rw [if_pos hk0] at hk
          obtain rfl := Option.some.inj h2
          refine vk_getf hx hb (A := fun q => b ≤ q) hE.2.2.1 hS hown (hts _ (tbG_mem hk.2 rfl)) (fun _ h => h) hd ?_
          have := kk la H locs cells slots hL ⟨hP, hS⟩ hc hz
          rw [show pcO mi (i + 1) = _ from hn] at this
          have e1 : rv b xt (.ref (cl + 2)) = .ref (xt (7 + (cl - 1005))) := by
            show Value.ref (adr b xt (cl + 2)) = _
            rw [adr_ge (by omega), show cl + 2 - 1000 = 7 + (cl - 1005) by omega]
          simp only [List.map_cons, e1] at this
          exact this
        · rename_i hk0
          rw [if_neg hk0] at hk
          obtain rfl := Option.some.inj h2
          refine vk_getf hx hb (A := fun q => b ≤ q) hE.2.1 hS hown (hts _ (tbG_mem hk.2 rfl)) (fun _ h => h) hd ?_
          have := kk la H locs cells slots hL ⟨hP, hS⟩ hc hz
          rw [show pcO mi (i + 1) = _ from hn] at this
          exact this
      · cases h2
set_option maxHeartbeats 1000000 in
theorem sh_putfield {idx : Nat} (hk : lkB (mt_ mi).1.cls (mt_ mi).1.name (tag, .putfield idx, pc, len, ops, kc) = true) (F : Fx b xt D cI cJ cZ cT sc p s0 m args meth c mi) (hN : Nw b xt D cI cJ cZ cT s0.heap s H locs) (hL : LR b xt la ls) (hc : cells + k0 = s.1.length) (hz : slots + z0 = szK cnN s.1) (hd : decode (mt_ mi).2.1 pc = .ok (.putfield idx, 3)) (hn : pcO mi (i + 1) = pc + 3) (h : pF i ls st s ops = some o) (kk : ∀ (la' : Array Slot) (H' : Heap) (locs' : List Loc) (cells' slots' : Nat), LR b xt la' o.2.1 → Nw b xt D cI cJ cZ cT s0.heap o.2.2.2 H' locs' → cells' + k0 = o.2.2.2.1.length → slots' + z0 = szK cnN o.2.2.2.1 → W p l e R s0 m args below meth c H' locs' cells' slots' Q (F0 m (pcO mi o.1) la' (o.2.2.1.map (rv b xt)))) : W p l e R s0 m args below meth c H locs cells slots Q (F0 m pc la (st.map (rv b xt))) := by
  obtain ⟨⟨hx, hb, hml, hown, hts⟩, hK, hRO, hin⟩ := F
  obtain ⟨hP, hS⟩ := hN
  have hD := wld_D b xt cI cJ cZ cT s
  obtain ⟨v, cl, r, ci, k, t, pl, fin, s', rfl, rfl, h1, h2, h3, rfl⟩ := inv_pF h
  obtain ⟨q, hq, -⟩ := hP cl _ (wld_at b xt cI cJ cZ cT h2)
  have hq : vwCl[ci]? = some q := hq
  simp only [lkB, hq, Bool.and_eq_true, decide_eq_true_eq] at hk
  obtain ⟨⟨⟨hk1, hk2⟩, hk3⟩, hk4⟩ := hk
  obtain ⟨hin', ty0, hty, hnm, hlf, hft, hins, hini, hcn⟩ := cls_all ci q hq
  have htt : tyT (ty0 k) = t := by
    have := (hft k hk1).1
    rw [hk3] at this
    exact (Option.some.inj this).symm
  obtain ⟨p1, p2, p3, p4, p5⟩ := put_ok (b := b) (xt := xt) (cI := cI) (cJ := cJ) (cZ := cZ) (cT := cT) (ci := ci) h3 hk3 htt
  have hl : k < (flds b xt s cl 0 (fts.getD ci [])).length := by rw [flds_len, hlf]; exact hk1
  show W p l e R s0 m args below meth c H locs cells slots Q (F0 m pc la (rv b xt v :: .ref (adr b xt cl) :: r.map (rv b xt)))
  rw [adr_lt h1]
  have fin' : ∀ (H1 : Heap) (locs1 : List Loc), va_P D vwCl ((wld b xt cI cJ cZ cT s).set cl (b + cl, .inr (ci, (flds b xt s cl 0 (fts.getD ci [])).set k (rv b xt v)))) H1 → va_S (fun q => b ≤ q) s0.heap H1 locs1 → W p l e R s0 m args below meth c H1 locs1 cells slots Q (F0 m (pc + 3) la (r.map (rv b xt))) := by
    intro H1 locs1 q1 q2
    rw [wld_set b xt cI cJ cZ cT h2 p3 p4 p5] at q1
    have := kk la H1 locs1 cells slots hL ⟨q1, q2⟩ (by rw [p3]; exact hc) (by rw [p3]; exact hz)
    rw [show pcO mi (i + 1) = _ from hn] at this
    exact this
  by_cases hf : fin = 0
  · rw [if_pos hf] at hk4
    simp only [decide_eq_true_eq] at hk4
    exact va_put hx hb hts hin' ty0 hty hnm hown hK hP hD hS cl (wld_at b xt cI cJ cZ cT h2) hq k hk1 (hts _ (tbG_mem hk2 rfl)) (fun _ h => h) hk4 (hty k hk1) p1 p2 hl hd (fun H1 locs1 q1 _ q3 => fin' H1 locs1 q1 q3)
  · rw [if_neg hf] at hk4
    simp only [decide_eq_true_eq] at hk4
    obtain ⟨g1, g2, g3⟩ := hk4
    exact va_putF hx hb hts hin' ty0 hty hnm hown hK hP hD hS cl (wld_at b xt cI cJ cZ cT h2) hq k hk1 (hts _ (tbG_mem hk2 rfl)) (fun _ h => h) g1 (hin g3) (((hft k hk1).2).trans g2.symm) (hty k hk1) p1 p2 hl hd (fun H1 locs1 q1 _ q3 => fin' H1 locs1 q1 q3)
end Heap1
