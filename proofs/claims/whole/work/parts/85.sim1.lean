/-! cells only come; one turn of the machine of numbers is one of the real machine -/
def Mon (ls : Lo) (s : Mm) (o : Nat × Lo × List Value × Mm) : Prop := o.2.1.length = ls.length ∧ ∃ t, o.2.2.2.1 = s.1 ++ t
section Mono
variable {i : Nat} {ls : Lo} {st : List Value} {s : Mm} {o : Nat × Lo × List Value × Mm}
theorem mo_puV {v : Value} (h : puV i ls st s v = some o) : Mon ls s o := by
  obtain rfl := Option.some.inj h
  exact ⟨rfl, [], (List.append_nil _).symm⟩
theorem mo_ldI {k : Nat} (h : ldI i ls st s k = some o) : Mon ls s o := by
  obtain ⟨x, -, rfl⟩ := inv_ldI h
  exact ⟨rfl, ⟨[], (List.append_nil _).symm⟩⟩
theorem mo_ldJ {k : Nat} (h : ldJ i ls st s k = some o) : Mon ls s o := by
  obtain ⟨x, -, rfl⟩ := inv_ldJ h
  exact ⟨rfl, ⟨[], (List.append_nil _).symm⟩⟩
theorem mo_ldA {k : Nat} (h : ldA i ls st s k = some o) : Mon ls s o := by
  rcases inv_ldA h with ⟨x, -, rfl⟩ | ⟨-, rfl⟩
  · exact ⟨rfl, ⟨[], (List.append_nil _).symm⟩⟩
  · exact ⟨rfl, ⟨[], (List.append_nil _).symm⟩⟩
theorem mo_stI {k : Nat} (h : stI i ls st s k = some o) : Mon ls s o := by
  obtain ⟨x, r, -, rfl, rfl⟩ := inv_stI h
  exact ⟨stL_len _ _ _, ⟨[], (List.append_nil _).symm⟩⟩
theorem mo_stJ {k : Nat} (h : stJ i ls st s k = some o) : Mon ls s o := by
  obtain ⟨x, r, -, rfl, rfl⟩ := inv_stJ h
  exact ⟨stL_len _ _ _, ⟨[], (List.append_nil _).symm⟩⟩
theorem mo_stA {k : Nat} (h : stA i ls st s k = some o) : Mon ls s o := by
  obtain ⟨-, ⟨x, r, rfl, rfl⟩ | ⟨r, rfl, rfl⟩⟩ := inv_stA h
  · exact ⟨stL_len _ _ _, ⟨[], (List.append_nil _).symm⟩⟩
  · exact ⟨stL_len _ _ _, ⟨[], (List.append_nil _).symm⟩⟩
theorem mo_incI {k : Nat} {n : Int} (h : incI i ls st s k n = some o) : Mon ls s o := by
  obtain ⟨x, -, -, rfl⟩ := inv_incI h
  exact ⟨stL_len _ _ _, ⟨[], (List.append_nil _).symm⟩⟩
theorem mo_biI {f : Int32 → Int32 → Int32} (h : biI i ls st s f = some o) : Mon ls s o := by
  obtain ⟨x, y, r, rfl, rfl⟩ := inv_biI h
  exact ⟨rfl, ⟨[], (List.append_nil _).symm⟩⟩
theorem mo_biZ {f : Int32 → Int32 → Int32} (h : biZ i ls st s f = some o) : Mon ls s o := by
  obtain ⟨x, y, r, rfl, -, rfl⟩ := inv_biZ h
  exact ⟨rfl, ⟨[], (List.append_nil _).symm⟩⟩
theorem mo_unI {f : Int32 → Value} (h : unI i ls st s f = some o) : Mon ls s o := by
  obtain ⟨x, r, rfl, rfl⟩ := inv_unI h
  exact ⟨rfl, ⟨[], (List.append_nil _).symm⟩⟩
theorem mo_unJ {f : Int64 → Value} (h : unJ i ls st s f = some o) : Mon ls s o := by
  obtain ⟨x, r, rfl, rfl⟩ := inv_unJ h
  exact ⟨rfl, ⟨[], (List.append_nil _).symm⟩⟩
theorem mo_biJ {f : Int64 → Int64 → Value} (h : biJ i ls st s f = some o) : Mon ls s o := by
  obtain ⟨x, y, r, rfl, rfl⟩ := inv_biJ h
  exact ⟨rfl, ⟨[], (List.append_nil _).symm⟩⟩
theorem mo_bzJ {f : Int64 → Int64 → Int64} (h : bzJ i ls st s f = some o) : Mon ls s o := by
  obtain ⟨x, y, r, rfl, -, rfl⟩ := inv_bzJ h
  exact ⟨rfl, ⟨[], (List.append_nil _).symm⟩⟩
theorem mo_shJ {f : Int64 → Int32 → Int64} (h : shJ i ls st s f = some o) : Mon ls s o := by
  obtain ⟨x, y, r, rfl, rfl⟩ := inv_shJ h
  exact ⟨rfl, ⟨[], (List.append_nil _).symm⟩⟩
theorem mo_dupV  (h : dupV i ls st s = some o) : Mon ls s o := by
  obtain ⟨v, r, rfl, -, rfl⟩ := inv_dupV h
  exact ⟨rfl, ⟨[], (List.append_nil _).symm⟩⟩
theorem mo_popV  (h : popV i ls st s = some o) : Mon ls s o := by
  obtain ⟨v, r, rfl, -, rfl⟩ := inv_popV h
  exact ⟨rfl, ⟨[], (List.append_nil _).symm⟩⟩
theorem mo_dup2V (h : dup2V i ls st s = some o) : Mon ls s o := by
  rcases inv_dup2V h with ⟨v, w, r, rfl, -, -, rfl⟩ | ⟨v, r, rfl, -, rfl⟩
  · exact ⟨rfl, ⟨[], (List.append_nil _).symm⟩⟩
  · exact ⟨rfl, ⟨[], (List.append_nil _).symm⟩⟩
theorem mo_ifC {cd : ClassFile.Cond} {t : Nat} (h : ifC i ls st s cd t = some o) : Mon ls s o := by
  obtain ⟨x, r, rfl, ⟨-, rfl⟩ | ⟨-, rfl⟩⟩ := inv_ifC h
  · exact ⟨rfl, ⟨[], (List.append_nil _).symm⟩⟩
  · exact ⟨rfl, ⟨[], (List.append_nil _).symm⟩⟩
theorem mo_ifI {cd : ClassFile.Cond} {t : Nat} (h : ifI i ls st s cd t = some o) : Mon ls s o := by
  obtain ⟨x, y, r, rfl, ⟨-, rfl⟩ | ⟨-, rfl⟩⟩ := inv_ifI h
  · exact ⟨rfl, ⟨[], (List.append_nil _).symm⟩⟩
  · exact ⟨rfl, ⟨[], (List.append_nil _).symm⟩⟩
theorem mo_ifN {t : Nat} (h : ifN i ls st s t = some o) : Mon ls s o := by
  rcases inv_ifN h with ⟨r, rfl, rfl⟩ | ⟨a, r, rfl, rfl⟩
  · exact ⟨rfl, ⟨[], (List.append_nil _).symm⟩⟩
  · exact ⟨rfl, ⟨[], (List.append_nil _).symm⟩⟩
theorem mo_swT {lo hi : Int} {ts : List Nat} (h : swT ls st s lo hi ts = some o) : Mon ls s o := by
  obtain ⟨x, r, d, us, rfl, rfl, ⟨-, rfl⟩ | ⟨-, t, -, rfl⟩⟩ := inv_swT h
  · exact ⟨rfl, ⟨[], (List.append_nil _).symm⟩⟩
  · exact ⟨rfl, ⟨[], (List.append_nil _).symm⟩⟩
theorem mo_gF {ops : List Nat} (h : gF i ls st s ops = some o) : Mon ls s o := by
  obtain ⟨cl, r, ci, k, t, rest, rfl, rfl, ⟨-, -, rfl⟩ | ⟨-, -, v, -, rfl⟩⟩ := inv_gF h
  · exact ⟨rfl, ⟨[], (List.append_nil _).symm⟩⟩
  · exact ⟨rfl, ⟨[], (List.append_nil _).symm⟩⟩
theorem mo_pF {ops : List Nat} (h : pF i ls st s ops = some o) : Mon ls s o := by
  obtain ⟨v, cl, r, ci, k, t, pl, fin, s', rfl, rfl, h1, h2, h3, rfl⟩ := inv_pF h
  rcases h3 with ⟨-, x, -, rfl⟩ | ⟨-, x, -, -, rfl⟩ | ⟨-, x, -, rfl⟩ | ⟨-, a, -, -, rfl⟩
  all_goals exact ⟨rfl, ⟨[], (List.append_nil _).symm⟩⟩
theorem mo_alI {sc : Sc} (h : alI i ls st s sc = some o) : Mon ls s o := by
  obtain ⟨j, cl, r, n, f, rfl, -, -, rfl⟩ := inv_alI h
  exact ⟨rfl, ⟨[], (List.append_nil _).symm⟩⟩
theorem mo_asI  (h : asI i ls st s = some o) : Mon ls s o := by
  obtain ⟨x, j, cl, r, n, rfl, -, -, -, rfl⟩ := inv_asI h
  exact ⟨rfl, ⟨[], (List.append_nil _).symm⟩⟩
theorem mo_alJ  (h : alJ i ls st s = some o) : Mon ls s o := by
  obtain ⟨j, cl, r, n, rfl, -, -, -, rfl⟩ := inv_alJ h
  exact ⟨rfl, ⟨[], (List.append_nil _).symm⟩⟩
theorem mo_asJ  (h : asJ i ls st s = some o) : Mon ls s o := by
  obtain ⟨x, j, cl, r, n, rfl, -, -, -, rfl⟩ := inv_asJ h
  exact ⟨rfl, ⟨[], (List.append_nil _).symm⟩⟩
theorem mo_alB (h : alB i ls st s = some o) : Mon ls s o := by
  obtain ⟨j, cl, r, rfl, ⟨-, n, -, -, rfl⟩ | ⟨-, n, f, -, -, rfl⟩⟩ := inv_alB h
  · exact ⟨rfl, ⟨[], (List.append_nil _).symm⟩⟩
  · exact ⟨rfl, ⟨[], (List.append_nil _).symm⟩⟩
theorem mo_asB  (h : asB i ls st s = some o) : Mon ls s o := by
  obtain ⟨x, j, cl, r, n, rfl, -, -, -, -, rfl⟩ := inv_asB h
  exact ⟨rfl, ⟨[], (List.append_nil _).symm⟩⟩
theorem mo_alA  (h : alA i ls st s = some o) : Mon ls s o := by
  obtain ⟨j, cl, r, n, rfl, -, -, -, rfl⟩ := inv_alA h
  exact ⟨rfl, ⟨[], (List.append_nil _).symm⟩⟩
theorem mo_asA  (h : asA i ls st s = some o) : Mon ls s o := by
  obtain ⟨a, j, cl, r, n, rfl, -, -, -, -, -, rfl⟩ := inv_asA h
  exact ⟨rfl, ⟨[], (List.append_nil _).symm⟩⟩
theorem mo_alN {sc : Sc} (h : alN i ls st s sc = some o) : Mon ls s o := by
  obtain ⟨cl, r, rfl, ⟨-, n, -, rfl⟩ | ⟨-, rfl⟩ | ⟨-, n, f, -, rfl⟩⟩ := inv_alN h
  all_goals exact ⟨rfl, ⟨[], (List.append_nil _).symm⟩⟩
theorem mo_nwA {t : Nat} (h : nwA i ls st s t = some o) : Mon ls s o := by
  obtain ⟨n, r, rfl, -, -, -, rfl⟩ := inv_nwA h
  exact ⟨rfl, ⟨_, rfl⟩⟩
theorem mo_nwO {ops : List Nat} (h : nwO i ls st s ops = some o) : Mon ls s o := by
  obtain ⟨ci, r, rfl, -, rfl⟩ := inv_nwO h
  exact ⟨rfl, ⟨_, rfl⟩⟩
theorem mo_cpA  (h : cpA i ls st s = some o) : Mon ls s o := by
  obtain ⟨n, dp, c1, sp, c0, r, n0, n1, rfl, -, -, -, -, -, -, -, -, -, -, rfl⟩ := inv_cpA h
  exact ⟨rfl, ⟨[], (List.append_nil _).symm⟩⟩
theorem mo_mxI {f : Int32 → Int32 → Int32} (h : mxI i ls st s f = some o) : Mon ls s o := by
  obtain ⟨x, y, r, rfl, -, rfl⟩ := inv_mxI h
  exact ⟨rfl, ⟨[], (List.append_nil _).symm⟩⟩
theorem mo_mxJ {f : Int64 → Int64 → Int64} (h : mxJ i ls st s f = some o) : Mon ls s o := by
  obtain ⟨x, y, r, rfl, -, rfl⟩ := inv_mxJ h
  exact ⟨rfl, ⟨[], (List.append_nil _).symm⟩⟩
theorem mo_pmS {ops : List Nat} (h : pmS i ls st s ops = some o) : Mon ls s o := by
  obtain ⟨pr, rest, rfl, ⟨-, h⟩ | ⟨-, h⟩ | ⟨-, h⟩ | ⟨-, h⟩ | ⟨-, h⟩⟩ := inv_pmS h
  · exact mo_cpA h
  · exact mo_mxI h
  · exact mo_mxI h
  · exact mo_mxJ h
  · exact mo_mxJ h
theorem mo_obI  (h : obI i ls st s = some o) : Mon ls s o := by
  obtain ⟨a, r, rfl, -, rfl⟩ := inv_obI h
  exact ⟨rfl, ⟨[], (List.append_nil _).symm⟩⟩
theorem mo_gS {ops : List Nat} (h : gS i ls st s ops = some o) : Mon ls s o := by
  unfold gS at h
  split at h
  · split at h
    · exact mo_puV h
    · split at h
      · exact mo_puV h
      · split at h
        · exact mo_puV h
        · cases h
  · cases h
theorem mo_ldS {ops : List Nat} {kc : Int} (h : ldS i ls st s ops kc = some o) : Mon ls s o := by
  unfold ldS at h
  split at h
  · exact mo_puV h
  · split at h
    · exact mo_puV h
    · cases h
  · cases h
theorem mo_st1 {sc : Sc} {e : Ea} (h : st1 sc e i ls st s = some o) : Mon ls s o := by
  obtain ⟨tag, ins, pc, len, ops, kc⟩ := e
  cases ins with
  | aconst_null => exact mo_puV h
  | iconst n => exact mo_puV h
  | bipush n => exact mo_puV h
  | sipush n => exact mo_puV h
  | lconst n => exact mo_puV h
  | ldc_w n => exact mo_puV h
  | ldc2_w n => exact mo_puV h
  | ldc n => exact mo_ldS h
  | iload_n n => exact mo_ldI h
  | iload n => exact mo_ldI h
  | lload_n n => exact mo_ldJ h
  | lload n => exact mo_ldJ h
  | aload_n n => exact mo_ldA h
  | aload n => exact mo_ldA h
  | istore_n n => exact mo_stI h
  | istore n => exact mo_stI h
  | lstore_n n => exact mo_stJ h
  | lstore n => exact mo_stJ h
  | astore_n n => exact mo_stA h
  | astore n => exact mo_stA h
  | iinc k n => exact mo_incI h
  | iadd => exact mo_biI h
  | isub => exact mo_biI h
  | imul => exact mo_biI h
  | iand => exact mo_biI h
  | ior => exact mo_biI h
  | ixor => exact mo_biI h
  | ishl => exact mo_biI h
  | ishr => exact mo_biI h
  | iushr => exact mo_biI h
  | idiv => exact mo_biZ h
  | irem => exact mo_biZ h
  | ineg => exact mo_unI h
  | i2l => exact mo_unI h
  | i2c => exact mo_unI h
  | i2b => exact mo_unI h
  | l2i => exact mo_unJ h
  | lneg => exact mo_unJ h
  | ladd => exact mo_biJ h
  | lsub => exact mo_biJ h
  | lmul => exact mo_biJ h
  | land => exact mo_biJ h
  | lor => exact mo_biJ h
  | lcmp => exact mo_biJ h
  | ldiv => exact mo_bzJ h
  | lrem => exact mo_bzJ h
  | lshl => exact mo_shJ h
  | lshr => exact mo_shJ h
  | dup => exact mo_dupV h
  | dup2 => exact mo_dup2V h
  | pop => exact mo_popV h
  | tableswitch d lo hi offs => exact mo_swT h
  | getfield n => exact mo_gF h
  | putfield n => exact mo_pF h
  | getstatic n => exact mo_gS h
  | iaload => exact mo_alI h
  | iastore => exact mo_asI h
  | laload => exact mo_alJ h
  | lastore => exact mo_asJ h
  | baload => exact mo_alB h
  | bastore => exact mo_asB h
  | aaload => exact mo_alA h
  | aastore => exact mo_asA h
  | arraylength => exact mo_alN h
  | anewarray n => exact mo_nwA h
  | new n => exact mo_nwO h
  | invokestatic n => exact mo_pmS h
  | invokespecial n => exact mo_obI h
  | goto off =>
    cases ops with
    | nil => cases h
    | cons t r =>
      obtain rfl := Option.some.inj h
      exact ⟨rfl, ⟨[], (List.append_nil _).symm⟩⟩
  | ifCond cd off =>
    cases ops with
    | nil => cases h
    | cons t r => exact mo_ifC h
  | if_icmp cd off =>
    cases ops with
    | nil => cases h
    | cons t r => exact mo_ifI h
  | ifnull off =>
    cases ops with
    | nil => cases h
    | cons t r => exact mo_ifN h
  | newarray t =>
    cases t with
    | int => exact mo_nwA h
    | long => exact mo_nwA h
    | boolean => exact mo_nwA h
    | _ => cases h
  | _ => cases h
theorem szK_le (cn : List Nat) : ∀ (l t : List (Nat × Nat)), szK cn l ≤ szK cn (l ++ t)
  | [], t => Nat.zero_le _
  | a :: l, t => by simp only [List.cons_append, szK]; exact Nat.add_le_add_left (szK_le cn l t) _
theorem run_grow (sc : Sc) : ∀ (n d mi i : Nat) (ls : Lo) (st : List Value) (s : Mm) (r : Option Value) (s' : Mm), run sc n d mi i ls st s = some (r, s') → ∃ t, s'.1 = s.1 ++ t := by
  intro n
  induction n with
  | zero => intro d mi i ls st s r s' h; cases h
  | succ n ih =>
    intro d mi i ls st s r s' h
    simp only [run] at h
    cases ha : at_ mi i with
    | none => rw [ha] at h; cases h
    | some e =>
      rw [ha] at h
      dsimp only at h
      split at h
      · split at h
        · rename_i h1
          obtain ⟨-, t1, h2⟩ := mo_st1 h1
          obtain ⟨t2, h3⟩ := ih _ _ _ _ _ _ _ _ h
          exact ⟨t1 ++ t2, by rw [h3, show _ = _ from h2, List.append_assoc]⟩
        · cases h
      · split at h
        · split at h
          · split at h
            · split at h
              · rename_i h1
                obtain ⟨t1, h2⟩ := ih _ _ _ _ _ _ _ _ h1
                obtain ⟨t2, h3⟩ := ih _ _ _ _ _ _ _ _ h
                exact ⟨t1 ++ t2, by rw [h3, h2, List.append_assoc]⟩
              · cases h
            · cases h
          · cases h
        · cases h
      · split at h
        · obtain ⟨-, rfl⟩ := Prod.mk.inj (Option.some.inj h)
          exact ⟨[], (List.append_nil _).symm⟩
        · cases h
      · cases h
end Mono
section Sim1
variable {p : Program} {l : Launch} {e : Env} {R : Room} {s0 : State} {m : MethodId} {args : Array Value} {below : List Frame} {meth : Method} {c : Code} {Q : State → Prop} {H : Heap} {locs : List Loc} {cells slots k0 z0 : Nat}
variable {b : Nat} {xt : Nat → Nat} {D : va_G} {cI cJ cZ cT : ClassId} {sc : Sc} {la : Array Slot} {ls : Lo} {st : List Value} {s : Mm} {mi i tag pc len : Nat} {ins : Instr} {ops : List Nat} {kc : Int} {o : Nat × Lo × List Value × Mm}
set_option maxHeartbeats 4000000 in
theorem sim1 (F : Fx b xt D cI cJ cZ cT sc p s0 m args meth c mi) (hN : Nw b xt D cI cJ cZ cT s0.heap s H locs) (hL : LR b xt la ls) (hc : cells + k0 = s.1.length) (hz : slots + z0 = szK cnN s.1) (hs0 : s0.heap.size = b + k0) (hr : o.2.2.2.1.length ≤ R.cells + k0) (hr2 : szK cnN o.2.2.2.1 ≤ R.slots + z0) (hll : ls.length = (mt_ mi).2.2.1) (hfr : 1 ≤ R.frames ∧ 60 ≤ R.locals)
    (hd : decode (mt_ mi).2.1 pc = .ok (ins, len)) (hlen : lenOk ins len) (hn : nxtP mi i (tag, ins, pc, len, ops, kc)) (hk : lkB (mt_ mi).1.cls (mt_ mi).1.name (tag, ins, pc, len, ops, kc) = true) (h : st1 sc (tag, ins, pc, len, ops, kc) i ls st s = some o)
    (kk : ∀ (la' : Array Slot) (H' : Heap) (locs' : List Loc) (cells' slots' : Nat), LR b xt la' o.2.1 → Nw b xt D cI cJ cZ cT s0.heap o.2.2.2 H' locs' → cells' + k0 = o.2.2.2.1.length → slots' + z0 = szK cnN o.2.2.2.1 → W p l e R s0 m args below meth c H' locs' cells' slots' Q (F0 m (pcO mi o.1) la' (o.2.2.1.map (rv b xt)))) : W p l e R s0 m args below meth c H locs cells slots Q (F0 m pc la (st.map (rv b xt))) := by
  by_cases hf : flatI ins = true
  · exact sim_flat F.1.1 F.1.2.1 hL hd hlen hn hf h (fun la' e1 h1 => kk la' H locs cells slots h1 (by rw [e1]; exact hN) (by rw [e1]; exact hc) (by rw [e1]; exact hz))
  · cases ins with
    | getfield idx =>
      obtain rfl : len = 3 := hlen
      exact sh_getfield hk F hN hL hc hz hd hn h kk
    | putfield idx =>
      obtain rfl : len = 3 := hlen
      exact sh_putfield hk F hN hL hc hz hd hn h kk
    | getstatic idx =>
      obtain rfl : len = 3 := hlen
      exact sh_gets hk F hN hL hc hz hd hn h kk
    | ldc idx =>
      obtain rfl : len = 2 := hlen
      exact sh_ldc hk F hN hL hc hz hd hn h kk
    | ldc_w idx =>
      obtain rfl : len = 3 := hlen
      exact sh_ldcw hk F hN hL hc hz hd hn h kk
    | ldc2_w idx =>
      obtain rfl : len = 3 := hlen
      exact sh_ldc2 hk F hN hL hc hz hd hn h kk
    | iaload =>
      obtain rfl : len = 1 := hlen
      exact sh_iaload F hN hL hc hz hd hn h kk
    | iastore =>
      obtain rfl : len = 1 := hlen
      exact sh_iastore F hN hL hc hz hd hn h kk
    | laload =>
      obtain rfl : len = 1 := hlen
      exact sh_laload F hN hL hc hz hd hn h kk
    | lastore =>
      obtain rfl : len = 1 := hlen
      exact sh_lastore F hN hL hc hz hd hn h kk
    | baload =>
      obtain rfl : len = 1 := hlen
      exact sh_baload F hN hL hc hz hd hn h kk
    | bastore =>
      obtain rfl : len = 1 := hlen
      exact sh_bastore F hN hL hc hz hd hn h kk
    | aaload =>
      obtain rfl : len = 1 := hlen
      exact sh_aaload F hN hL hc hz hd hn h kk
    | aastore =>
      obtain rfl : len = 1 := hlen
      exact sh_aastore F hN hL hc hz hd hn h kk
    | arraylength =>
      obtain rfl : len = 1 := hlen
      exact sh_alen F hN hL hc hz hd hn h kk
    | anewarray idx =>
      obtain rfl : len = 3 := hlen
      exact sh_newT hs0 hr hr2 hk F hN hL hc hz hd hn h kk
    | new idx =>
      obtain rfl : len = 3 := hlen
      exact sh_new hs0 hr hr2 hk F hN hL hc hz hd hn h kk
    | invokestatic idx =>
      obtain rfl : len = 3 := hlen
      exact sh_copy hll (Nat.le_trans (by obtain ⟨-, t, ht⟩ := mo_pmS h; rw [ht]; simp) hr) (Nat.le_trans (by obtain ⟨-, t, ht⟩ := mo_pmS h; rw [ht]; exact szK_le _ _ _) hr2) hfr hk F hN hL hc hz hd hn h kk
    | invokespecial idx =>
      obtain rfl : len = 3 := hlen
      exact sh_obj hll hfr hk F hN hL hc hz hd hn h kk
    | newarray t =>
      obtain rfl : len = 2 := hlen
      cases t with
      | int => exact sh_newI hs0 hr hr2 F hN hL hc hz hd hn h kk
      | long => exact sh_newJ hs0 hr hr2 F hN hL hc hz hd hn h kk
      | boolean => exact sh_newZ hs0 hr hr2 F hN hL hc hz hd hn h kk
      | _ => cases h
    | _ => first | (exact absurd rfl hf) | (cases h)
end Sim1
