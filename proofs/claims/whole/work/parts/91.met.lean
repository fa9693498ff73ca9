/-! every method's contract out of the machine of numbers -/
section Walk2
variable {p : Program} {l : Launch} {e : Env} {R : Room} {s0 : State} {m : MethodId} {args : Array Value} {below : List Frame} {meth : Method} {c : Code} {Q : State → Prop} {k0 z0 : Nat}
variable {b : Nat} {xt : Nat → Nat} {D : va_G} {cI cJ cZ cT : ClassId} {sc : Sc} {mi d : Nat} {r : Option Value} {s' : Mm}
def MetS (l : Launch) (b : Nat) (xt : Nat → Nat) (D : va_G) (cI cJ cZ cT : ClassId) (sc : Sc) (n : Nat) : Prop := ∀ (d mj : Nat) (q : Mt × List Ea) (as : List Value) (s : Mm) (r : Option Value) (s' : Mm), nthO prL mj = some q → (mPx mj).1 ≠ 3 → (entL as).length ≤ mLo mj → run sc n d mj 0 (padL (mLo mj) (entL as)) [] s = some (r, s') → Met l q.1.1 (Cond.code q.1.1 q.1.2.1 q.1.2.2.1 q.1.2.2.2 :: tbG) (rmD d (s'.1.length - s.1.length) (szK cnN s'.1 - szK cnN s.1)) (PreM b xt D cI cJ cZ cT sc as s) (PostM b xt D cI cJ cZ cT r s') (s'.1.length - s.1.length) (szK cnN s'.1 - szK cnN s.1) (fun q => b ≤ q)
theorem clB_kind {own : String} {tag pc len : Nat} {ins : Instr} {kc : Int} {mj na kind : Nat} {rest : List Nat} (h : clB own (tag, ins, pc, len, mj :: na :: kind :: rest, kc) = true) : (∃ q, nthO prL mj = some q) ∧ (mPx mj).1 ≠ 3 := by
  cases ins with
  | invokevirtual idx =>
    rcases rest with _ | ⟨pl, _ | ⟨z, zs⟩⟩
    · simp [clB] at h
    rotate_left
    · simp [clB] at h
    cases hq : nthO prL mj with
    | none => simp [clB, hq] at h
    | some q =>
      simp only [clB, hq, Bool.and_eq_true, decide_eq_true_eq] at h
      exact ⟨⟨q, rfl⟩, by rw [h.1.1.1.2.1]; decide⟩
  | invokestatic idx =>
    rcases rest with _ | ⟨pl, _ | ⟨z, zs⟩⟩
    · simp [clB] at h
    rotate_left
    · simp [clB] at h
    cases hq : nthO prL mj with
    | none => simp [clB, hq] at h
    | some q =>
      simp only [clB, hq, Bool.and_eq_true, decide_eq_true_eq] at h
      exact ⟨⟨q, rfl⟩, by rw [h.1.1.2]; decide⟩
  | invokespecial idx =>
    rcases rest with _ | ⟨pl, _ | ⟨z, zs⟩⟩
    · simp [clB] at h
    rotate_left
    · simp [clB] at h
    cases hq : nthO prL mj with
    | none => simp [clB, hq] at h
    | some q =>
      simp only [clB, hq, Bool.and_eq_true, decide_eq_true_eq] at h
      exact ⟨⟨q, rfl⟩, by rw [h.1.1.2.1]; decide⟩
  | _ => simp [clB] at h
theorem clB_len {mi i : Nat} {own : String} {e : Ea} (h : clB own e = true) (hn : nxtP mi i e) : pcO mi (i + 1) = e.2.2.1 + 3 := by
  obtain ⟨tag, ins, pc, len, ops, kc⟩ := e
  cases ins with
  | invokevirtual idx => exact hn
  | invokestatic idx => exact hn
  | invokespecial idx => exact hn
  | _ => simp [clB] at h
set_option maxHeartbeats 4000000 in
theorem walk {N : Nat} (ih : ∀ n, n < N → MetS l b xt D cI cJ cZ cT sc n) (F : Fx b xt D cI cJ cZ cT sc p s0 m args meth c mi) (hs0 : s0.heap.size = b + k0) (hR : d + 1 ≤ R.frames ∧ 64 * d + 60 ≤ R.locals) (hRc : s'.1.length ≤ R.cells + k0) (hRs : szK cnN s'.1 ≤ R.slots + z0)
    (fin : ∀ (i : Nat) (ei : Ea) (st : List Value) (la : Array Slot) (H : Heap) (locs : List Loc) (cells slots : Nat), at_ mi i = some ei → rtV (mRt mi) ei.2.1 st = some r → decode (mt_ mi).2.1 ei.2.2.1 = .ok (ei.2.1, ei.2.2.2.1) → lenOk ei.2.1 ei.2.2.2.1 → Nw b xt D cI cJ cZ cT s0.heap s' H locs → cells + k0 = s'.1.length → slots + z0 = szK cnN s'.1 → W p l e R s0 m args below meth c H locs cells slots Q (F0 m ei.2.2.1 la (st.map (rv b xt)))) :
    ∀ (n : Nat), n ≤ N → ∀ (i : Nat) (ls : Lo) (st : List Value) (s : Mm) (la : Array Slot) (H : Heap) (locs : List Loc) (cells slots : Nat), run sc n d mi i ls st s = some (r, s') → Nw b xt D cI cJ cZ cT s0.heap s H locs → LR b xt la ls → cells + k0 = s.1.length → slots + z0 = szK cnN s.1 → ls.length = (mt_ mi).2.2.1 → W p l e R s0 m args below meth c H locs cells slots Q (F0 m (pcO mi i) la (st.map (rv b xt))) := by
  intro n
  induction n with
  | zero => intro _ i ls st s la H locs cells slots h; cases h
  | succ n ihn =>
    intro hnN i ls st s la H locs cells slots h hN hL hc hz hll
    obtain ⟨ei, ha, hcases⟩ := run_inv h
    have hpc : pcO mi i = ei.2.2.1 := by unfold pcO; rw [ha]
    rw [hpc]
    obtain ⟨q, hq, hqi, hck, hpcs⟩ := at_ok ha
    obtain ⟨tag, ins, pc, len, ops, kc⟩ := ei
    simp only [ckE, Bool.and_eq_true, decide_eq_true_eq] at hck
    obtain ⟨⟨hd, hlB⟩, hck⟩ := hck
    have hlen := len_ok hlB
    rcases hcases with ⟨h0, o, hst, h⟩ | ⟨h0, d', mj, na, kind, rest, as, rr, v, s1, hdd, hops, hpop, hcond, hcall, h⟩ | ⟨h0, hrt, rfl⟩
    · have h0 : tag = 0 := h0
      subst h0
      simp only [Bool.and_eq_true] at hck
      obtain ⟨t, ht⟩ := run_grow sc _ _ _ _ _ _ _ _ _ h
      have hl1 : o.2.2.2.1.length ≤ s'.1.length := by rw [ht]; simp
      have hl2 : szK cnN o.2.2.2.1 ≤ szK cnN s'.1 := by rw [ht]; exact szK_le _ _ _
      exact sim1 F hN hL hc hz hs0 (by omega) (by omega) hll ⟨by omega, by omega⟩ hd hlen (nxt_ok hpcs hck.1) hck.2 hst (fun la' H' locs' cells' slots' g1 g2 g3 g4 => ihn (by omega) _ _ _ _ la' H' locs' cells' slots' h g2 g1 g3 g4 (by rw [(mo_st1 hst).1]; exact hll))
    · have h0 : tag = 1 := h0
      subst h0
      have hops : ops = mj :: na :: kind :: rest := hops
      subst hops
      simp only [Bool.and_eq_true] at hck
      obtain ⟨⟨qj, hqj⟩, h3⟩ := clB_kind hck.2
      obtain ⟨t1, ht1⟩ := run_grow sc _ _ _ _ _ _ _ _ _ hcall
      obtain ⟨t2, ht2⟩ := run_grow sc _ _ _ _ _ _ _ _ _ h
      have l1 : s.1.length ≤ s1.1.length := by rw [ht1]; simp
      have l2 : s1.1.length ≤ s'.1.length := by rw [ht2]; simp
      have l3 : szK cnN s.1 ≤ szK cnN s1.1 := by rw [ht1]; exact szK_le _ _ _
      have l4 : szK cnN s1.1 ≤ szK cnN s'.1 := by rw [ht2]; exact szK_le _ _ _
      have hM := ih n (by omega) d' mj qj as s v s1 hqj h3 hcond.2.2 hcall
      refine sim_call (k0 := k0) F hN hL hll hc hs0 hM hck.2 hqj (fun _ => md_ok hqj h3) rfl hlen hd hpop hcond.1 hcond.2.1 ⟨by omega, by omega⟩ ⟨by omega, by omega⟩ (fun H1 locs1 q1 q2 => ?_)
      have := ihn (by omega) (i + 1) ls (v.toList ++ rr) s1 la H1 locs1 (cells + (s1.1.length - s.1.length)) (slots + (szK cnN s1.1 - szK cnN s.1)) h ⟨q1, q2⟩ hL (by omega) (by omega) hll
      rw [clB_len hck.2 (nxt_ok hpcs hck.1)] at this
      have e2 : List.map (rv b xt) (v.toList ++ rr) = (v.map (rv b xt)).toList ++ rr.map (rv b xt) := by cases v <;> simp
      rw [e2] at this
      exact this
    · exact fin i _ st la H locs cells slots ha hrt hd hlen hN hc hz
theorem rtV_cases {rt : Option FieldType} {op : Instr} {st : List Value} {v : Option Value} (h : rtV rt op st = some v) : (op = .return_ ∧ rt = none ∧ st = [] ∧ v = none) ∨ (∃ x ty, op = .ireturn ∧ rt = some ty ∧ st = [.int x] ∧ v = some (.int x) ∧ narrow ty (.int x) = .int x) ∨ (∃ x, op = .lreturn ∧ rt = some .long ∧ st = [.long x] ∧ v = some (.long x)) ∨ (∃ C w, op = .areturn ∧ rt = some (.object C) ∧ st = [w] ∧ v = some w ∧ (w = .null ∨ ∃ a, w = .ref a)) := by
  unfold rtV at h
  split at h
  · exact Or.inl ⟨rfl, rfl, rfl, (Option.some.inj h).symm⟩
  · exact Or.inr (Or.inl ⟨_, _, rfl, rfl, rfl, (Option.some.inj h).symm, rfl⟩)
  · split at h
    · rename_i hx
      exact Or.inr (Or.inl ⟨_, _, rfl, rfl, rfl, (Option.some.inj h).symm, by rcases hx with rfl | rfl <;> rfl⟩)
    · cases h
  · split at h
    · rename_i hx
      refine Or.inr (Or.inl ⟨_, _, rfl, rfl, rfl, (Option.some.inj h).symm, ?_⟩)
      have := pk_nc ‹Int32›
      rw [hx] at this
      exact this
    · cases h
  · split at h
    · rename_i hx
      refine Or.inr (Or.inl ⟨_, _, rfl, rfl, rfl, (Option.some.inj h).symm, ?_⟩)
      show Value.int _ = _
      rw [hx]
    · cases h
  · exact Or.inr (Or.inr (Or.inl ⟨_, rfl, rfl, rfl, (Option.some.inj h).symm⟩))
  · exact Or.inr (Or.inr (Or.inr ⟨_, _, rfl, rfl, rfl, (Option.some.inj h).symm, Or.inr ⟨_, rfl⟩⟩))
  · exact Or.inr (Or.inr (Or.inr ⟨_, _, rfl, rfl, rfl, (Option.some.inj h).symm, Or.inl rfl⟩))
  · cases h
set_option maxHeartbeats 4000000 in
theorem met_all (l : Launch) (b : Nat) (xt : Nat → Nat) (D : va_G) (cI cJ cZ cT : ClassId) (sc : Sc) : ∀ n, MetS l b xt D cI cJ cZ cT sc n := by
  intro n
  induction n using Nat.strongRecOn with
  | _ N ih =>
    intro d mj q as s r s' hq h3 hlas hrun
    obtain ⟨t, ht⟩ := run_grow sc _ _ _ _ _ _ _ _ _ hrun
    have l1 : s.1.length ≤ s'.1.length := by rw [ht]; simp
    have l3 : szK cnN s.1 ≤ szK cnN s'.1 := by rw [ht]; exact szK_le _ _ _
    have hmd := md_ok hq h3
    have hmt := mt_of hq
    unfold mdB at hmd
    simp only [Bool.and_eq_true, decide_eq_true_eq] at hmd
    obtain ⟨⟨⟨⟨⟨m1, m2⟩, m3⟩, m4⟩, m5⟩, -⟩ := hmd
    refine Met.ofW (cc := q.1.2.1) (maxL := q.1.2.2.1) (ret := q.1.2.2.2) m3 rfl ?_
    intro p e s0 m args below meth c s₁ B hml hv
    obtain ⟨rfl, hsz, hP, hK, hRO⟩ := hv
    have hts := atoms_spec (ws := Cond.code q.1.1 q.1.2.1 q.1.2.2.1 q.1.2.2.2 :: tbG) B.pre
    have hown : s0.vm.findClass q.1.1.cls = some m.cls := findClass_of_methodNamed B.named
    have hname : meth.name = q.1.1.name := (name_of_methodNamed B.named B.method).1
    have hlocks := B.notSynchronized
    have F : Fx b xt D cI cJ cZ cT sc p s0 m (as.map (rv b xt)).toArray meth c mj := ⟨⟨B.exec, by rw [hmt]; exact B.bytes, by rw [hmt]; exact hml, by rw [hmt]; exact hown, fun w hw => hts w (List.mem_cons_of_mem _ hw)⟩, hK, hRO, fun h => by rw [hmt] at h; rw [hname]; exact h⟩
    have hmLo : mLo mj = q.1.2.2.1 := by unfold mLo; rw [hmt]
    have hmRt : mRt mj = q.1.2.2.2 := by unfold mRt; rw [hmt]
    have hl := lv_entry (as.map (rv b xt)) (n := q.1.2.2.1) (by rw [entL_len, ← hmLo]; exact hlas)
    rw [lg_entry_eq]
    generalize (lg_sl (as.map (rv b xt)) ++ List.replicate (q.1.2.2.1 - (lg_sl (as.map (rv b xt))).length) Slot.unset).toArray = la at hl ⊢
    have hpl : (padL (mLo mj) (entL as)).length = q.1.2.2.1 := by rw [padL_len _ _ hlas, hmLo]
    have hL : LR b xt la (padL (mLo mj) (entL as)) := by
      unfold LR
      rw [hpl, prs_pad, prs_ent]
      exact hl
    have hat0 : ∃ e0, at_ mj 0 = some e0 := by
      cases N with
      | zero => cases hrun
      | succ N =>
        cases ha : at_ mj 0 with
        | none => simp only [run, ha] at hrun; cases hrun
        | some e0 => exact ⟨e0, rfl⟩
    have hpc0 : pcO mj 0 = 0 := pc_zero hq
    have := walk (p := p) (l := l) (e := e) (R := (headSpec (Cond.code q.1.1 q.1.2.1 q.1.2.2.1 q.1.2.2.2 :: tbG) (rmD d (s'.1.length - s.1.length) (szK cnN s'.1 - szK cnN s.1))).room) (s0 := s0) (m := m) (args := (as.map (rv b xt)).toArray) (below := below) (meth := meth) (c := c) (Q := MQ below (PostM b xt D cI cJ cZ cT r s') (as.map (rv b xt)).toArray s0 (s'.1.length - s.1.length) (szK cnN s'.1 - szK cnN s.1) (fun q => b ≤ q)) (k0 := s.1.length) (z0 := szK cnN s.1) (b := b) (xt := xt) (D := D) (cI := cI) (cJ := cJ) (cZ := cZ) (cT := cT) (sc := sc) (mi := mj) (d := d) (r := r) (s' := s') ih F hsz ⟨Nat.le_refl _, Nat.le_refl _⟩ (by show _ ≤ (s'.1.length - s.1.length) + s.1.length; omega) (by show _ ≤ (szK cnN s'.1 - szK cnN s.1) + szK cnN s.1; omega) ?_ N (Nat.le_refl N) 0 (padL (mLo mj) (entL as)) [] s la s0.heap [] 0 0 hrun ⟨hP, va_S.rf⟩ hL (Nat.zero_add _) (Nat.zero_add _) (by rw [hpl, hmt])
    · rw [hpc0] at this
      exact this
    · intro i ei st la H locs cells slots hat hrt hd hlen hN hc hz
      have hce : cells = s'.1.length - s.1.length := by omega
      have hse : slots = szK cnN s'.1 - szK cnN s.1 := by omega
      subst hce
      subst hse
      obtain ⟨hP', hS'⟩ := hN
      have hret := B.returns
      refine W_dn (s := s') hsz hc hP' (fun hsz' => ?_)
      have hpost : ∀ (w : Option Value), w = r.map (rv b xt) → ∀ t : State, t.heap = H → s0.WarmedH t.vm → PostM b xt D cI cJ cZ cT r s' (as.map (rv b xt)).toArray s0 (.returned w) t := fun w hw t ht _ => ⟨by rw [hw], ⟨by rw [ht]; exact hsz', by rw [ht]; exact hP'⟩, hS'.F ht⟩
      obtain ⟨tag, ins, pc, len, ops, kc⟩ := ei
      rw [hmRt] at hrt
      have hb := F.1.2.1
      rcases rtV_cases hrt with ⟨rfl, h1, rfl, rfl⟩ | ⟨x, ty, rfl, h1, rfl, rfl, h2⟩ | ⟨x, rfl, h1, rfl, rfl⟩ | ⟨C, w, rfl, h1, rfl, rfl, h2⟩
      · obtain rfl : len = 1 := hlen
        exact W.vret B.exec hb (hret.trans h1) (hpost _ rfl) hS'.2.2 hd
      · obtain rfl : len = 1 := hlen
        exact W.zret B.exec hb (hret.trans h1) h2 (hpost _ rfl) hS'.2.2 hd
      · obtain rfl : len = 1 := hlen
        exact W.lret B.exec hb (hret.trans h1) (hpost _ rfl) hS'.2.2 hd
      · obtain rfl : len = 1 := hlen
        refine W.aret (v := rv b xt w) B.exec hb (hret.trans h1) (Or.inl ⟨_, rfl⟩) ?_ (hpost _ rfl) hS'.2.2 hd
        rcases h2 with rfl | ⟨a, rfl⟩
        · exact Or.inl rfl
        · exact Or.inr ⟨_, rfl⟩
end Walk2
