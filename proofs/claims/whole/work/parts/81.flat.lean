/-! what an instruction of the machine of numbers says when it goes on; the flat ones on the real machine -/
section Inv
variable {i : Nat} {ls : Lo} {st : List Value} {s : Mm} {o : Nat × Lo × List Value × Mm}
theorem inv_ldI {k : Nat} (h : ldI i ls st s k = some o) : ∃ x, ldL ls k = some (.int x) ∧ o = (i + 1, ls, .int x :: st, s) := by
  unfold ldI at h
  split at h
  · exact ⟨_, by assumption, (Option.some.inj h).symm⟩
  · cases h
theorem inv_ldJ {k : Nat} (h : ldJ i ls st s k = some o) : ∃ x, ldL ls k = some (.long x) ∧ o = (i + 1, ls, .long x :: st, s) := by
  unfold ldJ at h
  split at h
  · exact ⟨_, by assumption, (Option.some.inj h).symm⟩
  · cases h
theorem inv_ldA {k : Nat} (h : ldA i ls st s k = some o) : (∃ x, ldL ls k = some (.ref x) ∧ o = (i + 1, ls, .ref x :: st, s)) ∨ (ldL ls k = some .null ∧ o = (i + 1, ls, .null :: st, s)) := by
  unfold ldA at h
  split at h
  · exact Or.inl ⟨_, by assumption, (Option.some.inj h).symm⟩
  · exact Or.inr ⟨by assumption, (Option.some.inj h).symm⟩
  · cases h
theorem inv_stI {k : Nat} (h : stI i ls st s k = some o) : ∃ x r, k < ls.length ∧ st = .int x :: r ∧ o = (i + 1, stL ls k (.int x), r, s) := by
  unfold stI at h
  split at h
  · split at h
    · exact ⟨_, _, by assumption, rfl, (Option.some.inj h).symm⟩
    · cases h
  · cases h
theorem inv_stJ {k : Nat} (h : stJ i ls st s k = some o) : ∃ x r, k + 1 < ls.length ∧ st = .long x :: r ∧ o = (i + 1, stL ls k (.long x), r, s) := by
  unfold stJ at h
  split at h
  · split at h
    · exact ⟨_, _, by assumption, rfl, (Option.some.inj h).symm⟩
    · cases h
  · cases h
theorem inv_stA {k : Nat} (h : stA i ls st s k = some o) : k < ls.length ∧ ((∃ x r, st = .ref x :: r ∧ o = (i + 1, stL ls k (.ref x), r, s)) ∨ ∃ r, st = .null :: r ∧ o = (i + 1, stL ls k .null, r, s)) := by
  unfold stA at h
  split at h
  · refine ⟨by assumption, ?_⟩
    split at h
    · exact Or.inl ⟨_, _, rfl, (Option.some.inj h).symm⟩
    · exact Or.inr ⟨_, rfl, (Option.some.inj h).symm⟩
    · cases h
  · cases h
theorem inv_incI {k : Nat} {n : Int} (h : incI i ls st s k n = some o) : ∃ x, k < ls.length ∧ ldL ls k = some (.int x) ∧ o = (i + 1, stL ls k (.int (x + Int32.ofInt n)), st, s) := by
  unfold incI at h
  split at h
  · split at h
    · exact ⟨_, by assumption, by assumption, (Option.some.inj h).symm⟩
    · cases h
  · cases h
theorem inv_biI {f : Int32 → Int32 → Int32} (h : biI i ls st s f = some o) : ∃ x y r, st = .int y :: .int x :: r ∧ o = (i + 1, ls, .int (f x y) :: r, s) := by
  unfold biI at h
  split at h
  · exact ⟨_, _, _, rfl, (Option.some.inj h).symm⟩
  · cases h
theorem inv_biZ {f : Int32 → Int32 → Int32} (h : biZ i ls st s f = some o) : ∃ x y r, st = .int y :: .int x :: r ∧ ¬ y = 0 ∧ o = (i + 1, ls, .int (f x y) :: r, s) := by
  unfold biZ at h
  split at h
  · split at h
    · cases h
    · exact ⟨_, _, _, rfl, by assumption, (Option.some.inj h).symm⟩
  · cases h
theorem inv_unI {f : Int32 → Value} (h : unI i ls st s f = some o) : ∃ x r, st = .int x :: r ∧ o = (i + 1, ls, f x :: r, s) := by
  unfold unI at h
  split at h
  · exact ⟨_, _, rfl, (Option.some.inj h).symm⟩
  · cases h
theorem inv_unJ {f : Int64 → Value} (h : unJ i ls st s f = some o) : ∃ x r, st = .long x :: r ∧ o = (i + 1, ls, f x :: r, s) := by
  unfold unJ at h
  split at h
  · exact ⟨_, _, rfl, (Option.some.inj h).symm⟩
  · cases h
theorem inv_biJ {f : Int64 → Int64 → Value} (h : biJ i ls st s f = some o) : ∃ x y r, st = .long y :: .long x :: r ∧ o = (i + 1, ls, f x y :: r, s) := by
  unfold biJ at h
  split at h
  · exact ⟨_, _, _, rfl, (Option.some.inj h).symm⟩
  · cases h
theorem inv_bzJ {f : Int64 → Int64 → Int64} (h : bzJ i ls st s f = some o) : ∃ x y r, st = .long y :: .long x :: r ∧ ¬ y = 0 ∧ o = (i + 1, ls, .long (f x y) :: r, s) := by
  unfold bzJ at h
  split at h
  · split at h
    · cases h
    · exact ⟨_, _, _, rfl, by assumption, (Option.some.inj h).symm⟩
  · cases h
theorem inv_shJ {f : Int64 → Int32 → Int64} (h : shJ i ls st s f = some o) : ∃ x y r, st = .int y :: .long x :: r ∧ o = (i + 1, ls, .long (f x y) :: r, s) := by
  unfold shJ at h
  split at h
  · exact ⟨_, _, _, rfl, (Option.some.inj h).symm⟩
  · cases h
theorem inv_dupV (h : dupV i ls st s = some o) : ∃ v r, st = v :: r ∧ v.category = 1 ∧ o = (i + 1, ls, v :: v :: r, s) := by
  unfold dupV at h
  split at h
  · split at h
    · exact ⟨_, _, rfl, by assumption, (Option.some.inj h).symm⟩
    · cases h
  · cases h
theorem inv_popV (h : popV i ls st s = some o) : ∃ v r, st = v :: r ∧ v.category = 1 ∧ o = (i + 1, ls, r, s) := by
  unfold popV at h
  split at h
  · split at h
    · exact ⟨_, _, rfl, by assumption, (Option.some.inj h).symm⟩
    · cases h
  · cases h
theorem inv_dup2V (h : dup2V i ls st s = some o) : (∃ v w r, st = v :: w :: r ∧ v.category = 1 ∧ w.category = 1 ∧ o = (i + 1, ls, v :: w :: v :: w :: r, s)) ∨ ∃ v r, st = v :: r ∧ v.category = 2 ∧ o = (i + 1, ls, v :: v :: r, s) := by
  unfold dup2V at h
  split at h
  · split at h
    · rename_i hc
      exact Or.inl ⟨_, _, _, rfl, hc.1, hc.2, (Option.some.inj h).symm⟩
    · split at h
      · exact Or.inr ⟨_, _, rfl, by assumption, (Option.some.inj h).symm⟩
      · cases h
  · split at h
    · exact Or.inr ⟨_, _, rfl, by assumption, (Option.some.inj h).symm⟩
    · cases h
  · cases h
theorem inv_ifC {cd : ClassFile.Cond} {t : Nat} (h : ifC i ls st s cd t = some o) : ∃ x r, st = .int x :: r ∧ ((hold cd x 0 = true ∧ o = (t, ls, r, s)) ∨ (hold cd x 0 = false ∧ o = (i + 1, ls, r, s))) := by
  unfold ifC at h
  split at h
  · refine ⟨_, _, rfl, ?_⟩
    split at h
    · exact Or.inl ⟨by assumption, (Option.some.inj h).symm⟩
    · exact Or.inr ⟨by simp_all, (Option.some.inj h).symm⟩
  · cases h
theorem inv_ifI {cd : ClassFile.Cond} {t : Nat} (h : ifI i ls st s cd t = some o) : ∃ x y r, st = .int y :: .int x :: r ∧ ((hold cd x y = true ∧ o = (t, ls, r, s)) ∨ (hold cd x y = false ∧ o = (i + 1, ls, r, s))) := by
  unfold ifI at h
  split at h
  · refine ⟨_, _, _, rfl, ?_⟩
    split at h
    · exact Or.inl ⟨by assumption, (Option.some.inj h).symm⟩
    · exact Or.inr ⟨by simp_all, (Option.some.inj h).symm⟩
  · cases h
theorem inv_ifN {t : Nat} (h : ifN i ls st s t = some o) : (∃ r, st = .null :: r ∧ o = (t, ls, r, s)) ∨ ∃ a r, st = .ref a :: r ∧ o = (i + 1, ls, r, s) := by
  unfold ifN at h
  split at h
  · exact Or.inl ⟨_, rfl, (Option.some.inj h).symm⟩
  · exact Or.inr ⟨_, _, rfl, (Option.some.inj h).symm⟩
  · cases h
theorem inv_swT {lo hi : Int} {ts : List Nat} (h : swT ls st s lo hi ts = some o) : ∃ x r d us, st = .int x :: r ∧ ts = d :: us ∧ (((x.toInt < lo ∨ hi < x.toInt) ∧ o = (d, ls, r, s)) ∨ (¬ (x.toInt < lo ∨ hi < x.toInt) ∧ ∃ t, nthO us (x.toInt - lo).toNat = some t ∧ o = (t, ls, r, s))) := by
  unfold swT at h
  split at h
  · refine ⟨_, _, _, _, rfl, rfl, ?_⟩
    split at h
    · exact Or.inl ⟨by assumption, (Option.some.inj h).symm⟩
    · refine Or.inr ⟨by assumption, ?_⟩
      split at h
      · exact ⟨_, by assumption, (Option.some.inj h).symm⟩
      · cases h
  · cases h
end Inv
def lenI : Instr → Nat
  | .iload _ | .lload _ | .aload _ | .istore _ | .lstore _ | .astore _ | .bipush _ | .ldc _ | .newarray _ => 2
  | .sipush _ | .iinc _ _ | .goto _ | .ifCond _ _ | .if_icmp _ _ | .ifnull _ | .ldc_w _ | .ldc2_w _ | .getfield _ | .putfield _ | .getstatic _ | .invokevirtual _ | .invokespecial _ | .invokestatic _ | .new _ | .anewarray _ => 3
  | _ => 1
def lenOk (ins : Instr) (len : Nat) : Prop := match ins with
  | .tableswitch _ _ _ _ => True
  | op => len = lenI op
/-- the instructions that leave the cells alone -/
def flatI : Instr → Bool
  | .aconst_null | .iconst _ | .bipush _ | .sipush _ | .lconst _ | .iload_n _ | .iload _ | .lload_n _ | .lload _ | .aload_n _ | .aload _ | .istore_n _ | .istore _ | .lstore_n _ | .lstore _ | .astore_n _ | .astore _ | .iinc _ _ | .iadd | .isub | .imul | .idiv | .irem | .ineg | .iand | .ior | .ixor | .ishl | .ishr | .iushr | .i2l | .i2c | .i2b | .l2i | .lneg | .ladd | .lsub | .lmul | .land | .lor | .lcmp | .ldiv | .lrem | .lshl | .lshr | .dup | .dup2 | .pop | .goto _ | .ifCond _ _ | .if_icmp _ _ | .ifnull _ | .tableswitch _ _ _ _ => true
  | _ => false
noncomputable def pcO (mi i : Nat) : Nat := match at_ mi i with
  | some e => e.2.2.1
  | none => 0
/-- what a place in the code says of the places that come after it -/
def nxtP (mi i : Nat) (e : Ea) : Prop := (match e.2.1 with
  | .goto off => ∀ t r, e.2.2.2.2.1 = t :: r → (e.2.2.1 : Int) + off = (pcO mi t : Int)
  | .tableswitch dflt lo hi offs => (∀ t r, e.2.2.2.2.1 = t :: r → (e.2.2.1 : Int) + dflt = (pcO mi t : Int) ∧ ∀ (j : Nat) (u : Nat), nthO r j = some u → ∃ off, offs[j]? = some off ∧ (e.2.2.1 : Int) + off = (pcO mi u : Int))
  | .ifCond _ off => pcO mi (i + 1) = e.2.2.1 + 3 ∧ ∀ t r, e.2.2.2.2.1 = t :: r → (e.2.2.1 : Int) + off = (pcO mi t : Int)
  | .if_icmp _ off => pcO mi (i + 1) = e.2.2.1 + 3 ∧ ∀ t r, e.2.2.2.2.1 = t :: r → (e.2.2.1 : Int) + off = (pcO mi t : Int)
  | .ifnull off => pcO mi (i + 1) = e.2.2.1 + 3 ∧ ∀ t r, e.2.2.2.2.1 = t :: r → (e.2.2.1 : Int) + off = (pcO mi t : Int)
  | op => pcO mi (i + 1) = e.2.2.1 + lenI op)
section Flat
variable {p : Program} {l : Launch} {e : Env} {R : Room} {s0 : State} {m : MethodId} {args : Array Value} {below : List Frame} {meth : Method} {c : Code} {Q : State → Prop} {H : Heap} {locs : List Loc} {cells slots : Nat}
variable {b : Nat} {xt : Nat → Nat} {cc : ByteArray} {la : Array Slot} {ls : Lo} {st : List Value} {s : Mm}

set_option maxHeartbeats 4000000 in
theorem sim_flat {mi i : Nat} {tag pc len : Nat} {ins : Instr} {ops : List Nat} {kc : Int} {o : Nat × Lo × List Value × Mm} {sc : Sc} (hx : p.tables.exec = Jvm.exec) (hb : c.code = cc) (hL : LR b xt la ls) (hd : decode cc pc = .ok (ins, len)) (hlen : lenOk ins len) (hn : nxtP mi i (tag, ins, pc, len, ops, kc)) (hf : flatI ins = true) (h : st1 sc (tag, ins, pc, len, ops, kc) i ls st s = some o)
    (kk : ∀ la' : Array Slot, o.2.2.2 = s → LR b xt la' o.2.1 → W p l e R s0 m args below meth c H locs cells slots Q (F0 m (pcO mi o.1) la' (o.2.2.1.map (rv b xt)))) : W p l e R s0 m args below meth c H locs cells slots Q (F0 m pc la (st.map (rv b xt))) := by
  cases ins with
  | aconst_null =>
    obtain rfl : len = 1 := hlen
    obtain rfl := Option.some.inj h
    refine lv_null hx hb hd ?_
    have := kk la rfl hL
    rw [show pcO mi (i + 1) = _ from hn] at this
    exact this
  | iconst n =>
    obtain rfl : len = 1 := hlen
    obtain rfl := Option.some.inj h
    refine lv_iconst hx hb hd rfl ?_
    have := kk la rfl hL
    rw [show pcO mi (i + 1) = _ from hn] at this
    exact this
  | bipush n =>
    obtain rfl : len = 2 := hlen
    obtain rfl := Option.some.inj h
    refine lv_bipush hx hb hd rfl ?_
    have := kk la rfl hL
    rw [show pcO mi (i + 1) = _ from hn] at this
    exact this
  | sipush n =>
    obtain rfl : len = 3 := hlen
    obtain rfl := Option.some.inj h
    refine lv_sipush hx hb hd rfl ?_
    have := kk la rfl hL
    rw [show pcO mi (i + 1) = _ from hn] at this
    exact this
  | lconst n =>
    obtain rfl : len = 1 := hlen
    obtain rfl := Option.some.inj h
    refine lv_lconst hx hb hd rfl ?_
    have := kk la rfl hL
    rw [show pcO mi (i + 1) = _ from hn] at this
    exact this
  | iload_n n =>
    obtain rfl : len = 1 := hlen
    obtain ⟨x, h1, rfl⟩ := inv_ldI h
    refine lv_iload_n hx hb hd rfl (hL.at b xt h1) ?_
    have := kk la rfl hL
    rw [show pcO mi (i + 1) = _ from hn] at this
    exact this
  | iload n =>
    obtain rfl : len = 2 := hlen
    obtain ⟨x, h1, rfl⟩ := inv_ldI h
    refine lv_iload hx hb hd (hL.at b xt h1) ?_
    have := kk la rfl hL
    rw [show pcO mi (i + 1) = _ from hn] at this
    exact this
  | lload_n n =>
    obtain rfl : len = 1 := hlen
    obtain ⟨x, h1, rfl⟩ := inv_ldJ h
    refine lv_lload_n hx hb hd rfl (hL.at b xt h1) ?_
    have := kk la rfl hL
    rw [show pcO mi (i + 1) = _ from hn] at this
    exact this
  | lload n =>
    obtain rfl : len = 2 := hlen
    obtain ⟨x, h1, rfl⟩ := inv_ldJ h
    refine lv_lload hx hb hd (hL.at b xt h1) ?_
    have := kk la rfl hL
    rw [show pcO mi (i + 1) = _ from hn] at this
    exact this
  | aload_n n =>
    obtain rfl : len = 1 := hlen
    rcases inv_ldA h with ⟨x, h1, rfl⟩ | ⟨h1, rfl⟩
    · refine lv_aload_n hx hb hd rfl (hL.at b xt h1) ?_
      have := kk la rfl hL
      rw [show pcO mi (i + 1) = _ from hn] at this
      exact this
    · refine lv_aload_nN hx hb hd rfl (hL.at b xt h1) ?_
      have := kk la rfl hL
      rw [show pcO mi (i + 1) = _ from hn] at this
      exact this
  | aload n =>
    obtain rfl : len = 2 := hlen
    rcases inv_ldA h with ⟨x, h1, rfl⟩ | ⟨h1, rfl⟩
    · refine lv_aload hx hb hd (hL.at b xt h1) ?_
      have := kk la rfl hL
      rw [show pcO mi (i + 1) = _ from hn] at this
      exact this
    · refine lv_aloadN hx hb hd (hL.at b xt h1) ?_
      have := kk la rfl hL
      rw [show pcO mi (i + 1) = _ from hn] at this
      exact this
  | istore_n n =>
    obtain rfl : len = 1 := hlen
    obtain ⟨x, r, h1, rfl, rfl⟩ := inv_stI h
    refine lv_istore_n hx hb hd rfl hL h1 rfl (fun la' h2 => ?_)
    have := kk la' rfl (LR.st1 b xt (x := .int x) rfl h2)
    rw [show pcO mi (i + 1) = _ from hn] at this
    exact this
  | istore n =>
    obtain rfl : len = 2 := hlen
    obtain ⟨x, r, h1, rfl, rfl⟩ := inv_stI h
    refine lv_istore hx hb hd hL h1 rfl (fun la' h2 => ?_)
    have := kk la' rfl (LR.st1 b xt (x := .int x) rfl h2)
    rw [show pcO mi (i + 1) = _ from hn] at this
    exact this
  | lstore_n n =>
    obtain rfl : len = 1 := hlen
    obtain ⟨x, r, h1, rfl, rfl⟩ := inv_stJ h
    refine lv_lstore_n hx hb hd rfl hL h1 rfl (fun la' h2 => ?_)
    have := kk la' rfl (LR.st2 b xt (x := .long x) rfl h2)
    rw [show pcO mi (i + 1) = _ from hn] at this
    exact this
  | lstore n =>
    obtain rfl : len = 2 := hlen
    obtain ⟨x, r, h1, rfl, rfl⟩ := inv_stJ h
    refine lv_lstore hx hb hd hL h1 rfl (fun la' h2 => ?_)
    have := kk la' rfl (LR.st2 b xt (x := .long x) rfl h2)
    rw [show pcO mi (i + 1) = _ from hn] at this
    exact this
  | astore_n n =>
    obtain rfl : len = 1 := hlen
    obtain ⟨h1, ⟨x, r, rfl, rfl⟩ | ⟨r, rfl, rfl⟩⟩ := inv_stA h
    · refine lv_astore_n hx hb hd rfl hL h1 rfl (fun la' h2 => ?_)
      have := kk la' rfl (LR.st1 b xt (x := .ref x) rfl h2)
      rw [show pcO mi (i + 1) = _ from hn] at this
      exact this
    · refine lv_astore_nN hx hb hd rfl hL h1 rfl (fun la' h2 => ?_)
      have := kk la' rfl (LR.st1 b xt (x := .null) rfl h2)
      rw [show pcO mi (i + 1) = _ from hn] at this
      exact this
  | astore n =>
    obtain rfl : len = 2 := hlen
    obtain ⟨h1, ⟨x, r, rfl, rfl⟩ | ⟨r, rfl, rfl⟩⟩ := inv_stA h
    · refine lv_astore hx hb hd hL h1 rfl (fun la' h2 => ?_)
      have := kk la' rfl (LR.st1 b xt (x := .ref x) rfl h2)
      rw [show pcO mi (i + 1) = _ from hn] at this
      exact this
    · refine lv_astoreN hx hb hd hL h1 rfl (fun la' h2 => ?_)
      have := kk la' rfl (LR.st1 b xt (x := .null) rfl h2)
      rw [show pcO mi (i + 1) = _ from hn] at this
      exact this
  | iinc k n =>
    obtain rfl : len = 3 := hlen
    obtain ⟨x, h1, h2, rfl⟩ := inv_incI h
    obtain ⟨q, hq⟩ := List.getElem?_of_mem (prs_of b xt ls 0 k _ h2)
    rw [Nat.zero_add] at hq
    refine lv_iinc hx hb hd hL hq rfl h1 rfl (fun la' h3 => ?_)
    have := kk la' rfl (LR.st1 b xt (x := .int (x + Int32.ofInt n)) rfl h3)
    rw [show pcO mi (i + 1) = _ from hn] at this
    exact this
  | iadd =>
    obtain rfl : len = 1 := hlen
    obtain ⟨x, y, r, rfl, rfl⟩ := inv_biI h
    refine lv_iadd hx hb hd ?_
    have := kk la rfl hL
    rw [show pcO mi (i + 1) = _ from hn] at this
    exact this
  | isub =>
    obtain rfl : len = 1 := hlen
    obtain ⟨x, y, r, rfl, rfl⟩ := inv_biI h
    refine lv_isub hx hb hd ?_
    have := kk la rfl hL
    rw [show pcO mi (i + 1) = _ from hn] at this
    exact this
  | imul =>
    obtain rfl : len = 1 := hlen
    obtain ⟨x, y, r, rfl, rfl⟩ := inv_biI h
    refine lv_imul hx hb hd ?_
    have := kk la rfl hL
    rw [show pcO mi (i + 1) = _ from hn] at this
    exact this
  | iand =>
    obtain rfl : len = 1 := hlen
    obtain ⟨x, y, r, rfl, rfl⟩ := inv_biI h
    refine lv_iand hx hb hd ?_
    have := kk la rfl hL
    rw [show pcO mi (i + 1) = _ from hn] at this
    exact this
  | ior =>
    obtain rfl : len = 1 := hlen
    obtain ⟨x, y, r, rfl, rfl⟩ := inv_biI h
    refine lv_ior hx hb hd ?_
    have := kk la rfl hL
    rw [show pcO mi (i + 1) = _ from hn] at this
    exact this
  | ixor =>
    obtain rfl : len = 1 := hlen
    obtain ⟨x, y, r, rfl, rfl⟩ := inv_biI h
    refine lv_ixor hx hb hd ?_
    have := kk la rfl hL
    rw [show pcO mi (i + 1) = _ from hn] at this
    exact this
  | ishl =>
    obtain rfl : len = 1 := hlen
    obtain ⟨x, y, r, rfl, rfl⟩ := inv_biI h
    refine lv_ishl hx hb hd ?_
    have := kk la rfl hL
    rw [show pcO mi (i + 1) = _ from hn] at this
    exact this
  | ishr =>
    obtain rfl : len = 1 := hlen
    obtain ⟨x, y, r, rfl, rfl⟩ := inv_biI h
    refine lv_ishr hx hb hd ?_
    have := kk la rfl hL
    rw [show pcO mi (i + 1) = _ from hn] at this
    exact this
  | iushr =>
    obtain rfl : len = 1 := hlen
    obtain ⟨x, y, r, rfl, rfl⟩ := inv_biI h
    refine lv_iushr hx hb hd rfl ?_
    have := kk la rfl hL
    rw [show pcO mi (i + 1) = _ from hn] at this
    exact this
  | idiv =>
    obtain rfl : len = 1 := hlen
    obtain ⟨x, y, r, rfl, h1, rfl⟩ := inv_biZ h
    refine lv_idiv hx hb hd h1 ?_
    have := kk la rfl hL
    rw [show pcO mi (i + 1) = _ from hn] at this
    exact this
  | irem =>
    obtain rfl : len = 1 := hlen
    obtain ⟨x, y, r, rfl, h1, rfl⟩ := inv_biZ h
    refine lv_irem hx hb hd h1 ?_
    have := kk la rfl hL
    rw [show pcO mi (i + 1) = _ from hn] at this
    exact this
  | ineg =>
    obtain rfl : len = 1 := hlen
    obtain ⟨x, r, rfl, rfl⟩ := inv_unI h
    refine lv_ineg hx hb hd ?_
    have := kk la rfl hL
    rw [show pcO mi (i + 1) = _ from hn] at this
    exact this
  | i2l =>
    obtain rfl : len = 1 := hlen
    obtain ⟨x, r, rfl, rfl⟩ := inv_unI h
    refine lv_i2l hx hb hd rfl ?_
    have := kk la rfl hL
    rw [show pcO mi (i + 1) = _ from hn] at this
    exact this
  | i2c =>
    obtain rfl : len = 1 := hlen
    obtain ⟨x, r, rfl, rfl⟩ := inv_unI h
    refine lv_i2c hx hb hd rfl ?_
    have := kk la rfl hL
    rw [show pcO mi (i + 1) = _ from hn] at this
    exact this
  | i2b =>
    obtain rfl : len = 1 := hlen
    obtain ⟨x, r, rfl, rfl⟩ := inv_unI h
    refine lv_i2b hx hb hd rfl ?_
    have := kk la rfl hL
    rw [show pcO mi (i + 1) = _ from hn] at this
    exact this
  | l2i =>
    obtain rfl : len = 1 := hlen
    obtain ⟨x, r, rfl, rfl⟩ := inv_unJ h
    refine lv_l2i hx hb hd rfl ?_
    have := kk la rfl hL
    rw [show pcO mi (i + 1) = _ from hn] at this
    exact this
  | lneg =>
    obtain rfl : len = 1 := hlen
    obtain ⟨x, r, rfl, rfl⟩ := inv_unJ h
    refine lv_lneg hx hb hd ?_
    have := kk la rfl hL
    rw [show pcO mi (i + 1) = _ from hn] at this
    exact this
  | ladd =>
    obtain rfl : len = 1 := hlen
    obtain ⟨x, y, r, rfl, rfl⟩ := inv_biJ h
    refine lv_ladd hx hb hd ?_
    have := kk la rfl hL
    rw [show pcO mi (i + 1) = _ from hn] at this
    exact this
  | lsub =>
    obtain rfl : len = 1 := hlen
    obtain ⟨x, y, r, rfl, rfl⟩ := inv_biJ h
    refine lv_lsub hx hb hd ?_
    have := kk la rfl hL
    rw [show pcO mi (i + 1) = _ from hn] at this
    exact this
  | lmul =>
    obtain rfl : len = 1 := hlen
    obtain ⟨x, y, r, rfl, rfl⟩ := inv_biJ h
    refine lv_lmul hx hb hd ?_
    have := kk la rfl hL
    rw [show pcO mi (i + 1) = _ from hn] at this
    exact this
  | land =>
    obtain rfl : len = 1 := hlen
    obtain ⟨x, y, r, rfl, rfl⟩ := inv_biJ h
    refine lv_land hx hb hd ?_
    have := kk la rfl hL
    rw [show pcO mi (i + 1) = _ from hn] at this
    exact this
  | lor =>
    obtain rfl : len = 1 := hlen
    obtain ⟨x, y, r, rfl, rfl⟩ := inv_biJ h
    refine lv_lor hx hb hd ?_
    have := kk la rfl hL
    rw [show pcO mi (i + 1) = _ from hn] at this
    exact this
  | lcmp =>
    obtain rfl : len = 1 := hlen
    obtain ⟨x, y, r, rfl, rfl⟩ := inv_biJ h
    refine W.lcmp hx hb hd ?_
    have := kk la rfl hL
    rw [show pcO mi (i + 1) = _ from hn] at this
    exact this
  | ldiv =>
    obtain rfl : len = 1 := hlen
    obtain ⟨x, y, r, rfl, h1, rfl⟩ := inv_bzJ h
    refine lv_ldiv hx hb hd h1 ?_
    have := kk la rfl hL
    rw [show pcO mi (i + 1) = _ from hn] at this
    exact this
  | lrem =>
    obtain rfl : len = 1 := hlen
    obtain ⟨x, y, r, rfl, h1, rfl⟩ := inv_bzJ h
    refine lv_lrem hx hb hd h1 ?_
    have := kk la rfl hL
    rw [show pcO mi (i + 1) = _ from hn] at this
    exact this
  | lshl =>
    obtain rfl : len = 1 := hlen
    obtain ⟨x, y, r, rfl, rfl⟩ := inv_shJ h
    refine lv_lshl hx hb hd rfl ?_
    have := kk la rfl hL
    rw [show pcO mi (i + 1) = _ from hn] at this
    exact this
  | lshr =>
    obtain rfl : len = 1 := hlen
    obtain ⟨x, y, r, rfl, rfl⟩ := inv_shJ h
    refine lv_lshr hx hb hd rfl ?_
    have := kk la rfl hL
    rw [show pcO mi (i + 1) = _ from hn] at this
    exact this
  | dup =>
    obtain rfl : len = 1 := hlen
    obtain ⟨v, r, rfl, h1, rfl⟩ := inv_dupV h
    refine lv_dup hx hb hd ((rv_cat b xt v).trans h1) ?_
    have := kk la rfl hL
    rw [show pcO mi (i + 1) = _ from hn] at this
    exact this
  | pop =>
    obtain rfl : len = 1 := hlen
    obtain ⟨v, r, rfl, h1, rfl⟩ := inv_popV h
    refine lv_pop hx hb hd ((rv_cat b xt v).trans h1) ?_
    have := kk la rfl hL
    rw [show pcO mi (i + 1) = _ from hn] at this
    exact this
  | dup2 =>
    obtain rfl : len = 1 := hlen
    rcases inv_dup2V h with ⟨v, w, r, rfl, h1, h2, rfl⟩ | ⟨v, r, rfl, h1, rfl⟩
    · refine lv_dup2_11 hx hb hd ((rv_cat b xt v).trans h1) ((rv_cat b xt w).trans h2) ?_
      have := kk la rfl hL
      rw [show pcO mi (i + 1) = _ from hn] at this
      exact this
    · refine lv_dup2_2 hx hb hd ((rv_cat b xt v).trans h1) ?_
      have := kk la rfl hL
      rw [show pcO mi (i + 1) = _ from hn] at this
      exact this
  | goto off =>
    obtain rfl : len = 3 := hlen
    cases ops with
    | nil => cases h
    | cons t r =>
      obtain rfl := Option.some.inj h
      exact lv_goto hx hb hd (hn t r rfl) (kk la rfl hL)
  | ifCond cd off =>
    obtain rfl : len = 3 := hlen
    cases ops with
    | nil => cases h
    | cons t r =>
      obtain ⟨h3, h4⟩ := hn
      have h4 := h4 t r rfl
      obtain ⟨x, r, rfl, hh⟩ := inv_ifC h
      have kt : hold cd x 0 = true → W p l e R s0 m args below meth c H locs cells slots Q (F0 m (pcO mi t) la (r.map (rv b xt))) := fun hq => by
        rcases hh with ⟨-, rfl⟩ | ⟨hz, -⟩
        · exact kk la rfl hL
        · rw [hq] at hz; cases hz
      have kf : hold cd x 0 = false → W p l e R s0 m args below meth c H locs cells slots Q (F0 m (pc + 3) la (r.map (rv b xt))) := fun hq => by
        rcases hh with ⟨hz, -⟩ | ⟨-, rfl⟩
        · rw [hq] at hz; cases hz
        · have := kk la rfl hL
          rw [show pcO mi (i + 1) = _ from h3] at this
          exact this
      cases cd
      · exact lv_if_eq hx hb hd h4 (fun q => kt (by simpa [hold] using q)) (fun q => kf (by simpa [hold] using q))
      · exact lv_if_ne hx hb hd h4 (fun q => kt (by simpa [hold] using q)) (fun q => kf (by simpa [hold] using q))
      · exact lv_if_lt hx hb hd h4 (fun q => kt (by simpa [hold] using q)) (fun q => kf (by simpa [hold] using q))
      · exact lv_if_ge hx hb hd h4 (fun q => kt (by simpa [hold] using q)) (fun q => kf (by simpa [hold] using q))
      · exact lv_if_gt hx hb hd h4 (fun q => kt (by simpa [hold] using q)) (fun q => kf (by simpa [hold] using q))
      · exact lv_if_le hx hb hd h4 (fun q => kt (by simpa [hold] using q)) (fun q => kf (by simpa [hold] using q))
  | if_icmp cd off =>
    obtain rfl : len = 3 := hlen
    cases ops with
    | nil => cases h
    | cons t r =>
      obtain ⟨h3, h4⟩ := hn
      have h4 := h4 t r rfl
      obtain ⟨x, y, r, rfl, hh⟩ := inv_ifI h
      have kt : hold cd x y = true → W p l e R s0 m args below meth c H locs cells slots Q (F0 m (pcO mi t) la (r.map (rv b xt))) := fun hq => by
        rcases hh with ⟨-, rfl⟩ | ⟨hz, -⟩
        · exact kk la rfl hL
        · rw [hq] at hz; cases hz
      have kf : hold cd x y = false → W p l e R s0 m args below meth c H locs cells slots Q (F0 m (pc + 3) la (r.map (rv b xt))) := fun hq => by
        rcases hh with ⟨hz, -⟩ | ⟨-, rfl⟩
        · rw [hq] at hz; cases hz
        · have := kk la rfl hL
          rw [show pcO mi (i + 1) = _ from h3] at this
          exact this
      cases cd
      · exact lv_icmp_eq hx hb hd h4 (fun q => kt (by simpa [hold] using q)) (fun q => kf (by simpa [hold] using q))
      · exact lv_icmp_ne hx hb hd h4 (fun q => kt (by simpa [hold] using q)) (fun q => kf (by simpa [hold] using q))
      · exact lv_icmp_lt hx hb hd h4 (fun q => kt (by simpa [hold] using q)) (fun q => kf (by simpa [hold] using q))
      · exact lv_icmp_ge hx hb hd h4 (fun q => kt (by simpa [hold] using q)) (fun q => kf (by simpa [hold] using q))
      · exact lv_icmp_gt hx hb hd h4 (fun q => kt (by simpa [hold] using q)) (fun q => kf (by simpa [hold] using q))
      · exact lv_icmp_le hx hb hd h4 (fun q => kt (by simpa [hold] using q)) (fun q => kf (by simpa [hold] using q))
  | ifnull off =>
    obtain rfl : len = 3 := hlen
    cases ops with
    | nil => cases h
    | cons t r =>
      obtain ⟨h3, h4⟩ := hn
      rcases inv_ifN h with ⟨r, rfl, rfl⟩ | ⟨a, r, rfl, rfl⟩
      · exact lv_ifnullN hx hb hd (h4 t _ rfl) (kk la rfl hL)
      · refine lv_ifnull hx hb hd ?_
        have := kk la rfl hL
        rw [show pcO mi (i + 1) = _ from h3] at this
        exact this
  | tableswitch dflt lo hi offs =>
    obtain ⟨x, r, d, us, rfl, rfl, ⟨h1, rfl⟩ | ⟨h1, t, h2, rfl⟩⟩ := inv_swT h
    · exact lv_tableOut hx hb hd h1 (hn d us rfl).1 (kk la rfl hL)
    · obtain ⟨off, h3, h4⟩ := (hn d us rfl).2 _ t h2
      exact lv_tableIn hx hb hd (fun q => h1 (Or.inl q)) (fun q => h1 (Or.inr q)) h3 h4 (kk la rfl hL)
  | _ => exact absurd hf (by simp [flatI])
end Flat
