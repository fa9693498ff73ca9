/-! the walk: what the machine of numbers answers, the real machine answers -/
section Walk0
variable (b : Nat) (xt : Nat → Nat) (D : va_G) (cI cJ cZ cT : ClassId) (sc : Sc)
theorem RO.same {U V : State} (h : RO b xt sc U U.heap) (hv : V.vm = U.vm) (hh : V.heap = U.heap) : RO b xt sc V V.heap := by
  rw [hh]
  have ha : U.vm.Alike V.vm := by rw [hv]; exact Vm.Alike.refl U.vm
  obtain ⟨⟨x1, x2, x3⟩, h2, h3, h4, h5, h6, h7, h8⟩ := h
  refine ⟨⟨va_X.moved ha x1, x2, x3⟩, fun j hj => ⟨(h2 j hj).1.moved ha, (h2 j hj).2.moved ha⟩, h3.moved ha, fun j hj => (h4 j hj).same hv, h5.moved ha, h6.moved ha, fun w hw hn => ?_, h8.moved ha⟩
  have h9 := h7 w hw hn
  cases w <;> first | exact va_Nw.same rfl hv.symm h9 | (simp [nestW] at hn; done)
def PreM (as : List Value) (s : Mm) : Array Value → State → Prop := va_Pc (as.map (rv b xt)) (fun U => U.heap.size = b + s.1.length ∧ va_P D vwCl (wld b xt cI cJ cZ cT s) U.heap ∧ va_K D vwCl (tysM cI cJ cZ cT) U ∧ RO b xt sc U U.heap)
def PostM (r : Option Value) (s' : Mm) : Array Value → State → Outcome → State → Prop := fun _ st o t => o = .returned (r.map (rv b xt)) ∧ (t.heap.size = b + s'.1.length ∧ va_P D vwCl (wld b xt cI cJ cZ cT s') t.heap) ∧ va_F (fun q => b ≤ q) st t
theorem PreM.blind (as : List Value) (s : Mm) : FrameBlind (PreM b xt D cI cJ cZ cT sc as s) := by
  intro a U g mk q
  obtain ⟨q0, q1, q2, q3, q4⟩ := q
  exact ⟨q0, q1, q2, va_K.moved (u := U) (U := U.calling g mk a) (Vm.Alike.refl U.vm) q3, RO.same b xt sc (V := U.calling g mk a) q4 rfl rfl⟩
end Walk0
def rmD (d mc ms : Nat) : Room := { frames := d + 1, cells := mc, slots := ms, locals := 64 * d + 60 }
theorem popN_eq : ∀ (n : Nat) (acc st as r : List Value), popN n acc st = some (as, r) → ∃ xs, as = xs.reverse ++ acc ∧ st = xs ++ r ∧ xs.length = n
  | 0, acc, st, as, r, h => by
    simp only [popN, Option.some.injEq, Prod.mk.injEq] at h
    exact ⟨[], by simp [h.1], by simp [h.2], rfl⟩
  | n + 1, acc, [], as, r, h => by simp [popN] at h
  | n + 1, acc, v :: st, as, r, h => by
    obtain ⟨xs, h1, h2, h3⟩ := popN_eq n (v :: acc) st as r (by simpa [popN] using h)
    exact ⟨v :: xs, by simp [h1], by simp [h2], by simp [h3]⟩
theorem padL_len : ∀ (n : Nat) (l : Lo), l.length ≤ n → (padL n l).length = n
  | 0, l, h => by
    cases l with
    | nil => rfl
    | cons a t => simp at h
  | n + 1, [], h => by simp [padL, padL_len n [] (Nat.zero_le _)]
  | n + 1, o :: t, h => by simp [padL, padL_len n t (by simpa using h)]
theorem prs_pad (b : Nat) (xt : Nat → Nat) : ∀ (n c : Nat) (l : Lo), prs b xt c (padL n l) = prs b xt c l
  | 0, c, l => rfl
  | n + 1, c, [] => by simp [padL, prs, prs_pad b xt n (c + 1) []]
  | n + 1, c, none :: t => by simp [padL, prs, prs_pad b xt n (c + 1) t]
  | n + 1, c, some v :: t => by simp [padL, prs, prs_pad b xt n (c + 1) t]
theorem prs_ent (b : Nat) (xt : Nat → Nat) : ∀ (as : List Value) (c : Nat), prs b xt c (entL as) = lv_args c (as.map (rv b xt))
  | [], c => rfl
  | v :: as, c => by
    simp only [entL, List.map_cons, lv_args, rv_cat]
    by_cases h : v.category = 2
    · rw [if_pos h, if_pos h]
      simp [prs, prs_ent b xt as (c + 2)]
    · rw [if_neg h, if_neg h]
      simp [prs, prs_ent b xt as (c + 1)]
theorem entL_len (b : Nat) (xt : Nat → Nat) : ∀ as : List Value, (lg_sl (as.map (rv b xt))).length = (entL as).length
  | [] => rfl
  | v :: as => by
    have ih := entL_len b xt as
    simp only [lg_sl] at ih ⊢
    simp only [List.map_cons, List.flatMap_cons, List.length_append, entL, rv_cat]
    rw [ih]
    by_cases h : v.category = 2
    · rw [if_pos h, if_pos h]
      simp
      omega
    · rw [if_neg h, if_neg h]
      simp
      omega
theorem adr_str {b : Nat} {xt : Nat → Nat} {a j : Nat} (h : a = 1005 + j) : adr b xt a = xt (5 + j) := by
  have e1 : a - 1000 = 5 + j := by omega
  have e2 : ¬ a < 1000 := by omega
  rw [← e1]
  exact adr_ge e2
section Walk1
variable {p : Program} {l : Launch} {e : Env} {R : Room} {s0 : State} {m : MethodId} {args : Array Value} {below : List Frame} {meth : Method} {c : Code} {Q : State → Prop} {H : Heap} {locs : List Loc} {cells slots k0 z0 mc ms : Nat}
variable {b : Nat} {xt : Nat → Nat} {D : va_G} {cI cJ cZ cT : ClassId} {sc : Sc} {la : Array Slot} {ls : Lo} {st : List Value} {s s1 s' : Mm} {mi i pc : Nat} {v : Option Value}
theorem call_on {a : Array Value} {st0 rest : List Value} (hr : va_Run p l e R s0 m args below meth c H locs cells slots mc ms (F0 m pc la st0) rest (PostM b xt D cI cJ cZ cT v s1 a) (fun q => b ≤ q)) (hS : va_S (fun q => b ≤ q) s0.heap H locs)
    (kk : ∀ (H1 : Heap) (locs1 : List Loc), va_P D vwCl (wld b xt cI cJ cZ cT s1) H1 → va_S (fun q => b ≤ q) s0.heap H1 locs1 → W p l e R s0 m args below meth c H1 locs1 (cells + mc) (slots + ms) Q (F0 m (pc + 3) la ((v.map (rv b xt)).toList ++ rest))) : W p l e R s0 m args below meth c H locs cells slots Q (F0 m pc la st0) := by
  intro T hT X
  obtain ⟨v', st₀, t, T', L, h0, X', hL, e1, e2, ⟨hv, ⟨-, hP'⟩, hz, hk⟩, st⟩ := hr T hT X
  obtain rfl : v' = v.map (rv b xt) := by
    injection hv
  rw [h0] at hz hk
  obtain ⟨t2, a1, b1⟩ := kk T'.heap (locs ++ L) (by rw [e1]; exact hP')
    ⟨Nat.le_trans hS.1 (by rw [e1]; exact hz), fun q h1 h2 => by rw [e1, hk q (Nat.lt_of_lt_of_le h1 hS.1) h2]; exact hS.2.1 q h1 h2, fun q hq => by
      rcases List.mem_append.mp hq with h | h
      · exact hS.2.2 q h
      · exact hL q h⟩ T' rfl X'
  exact ⟨t2, st t2 a1, b1⟩
theorem good_ws {q : Mt × List Ea} {P : Nat × Nat × Nat × Nat × Nat} (h : lw_tbl[P.2.1]? = some (.code q.1.1 q.1.2.1 q.1.2.2.1 q.1.2.2.2)) : GoodIn tbG (Cond.code q.1.1 q.1.2.1 q.1.2.2.1 q.1.2.2.2 :: tbG) := by
  intro w hw
  have hm : w ∈ tbG := by
    rcases List.mem_cons.mp hw with rfl | h1
    · exact tbG_mem h rfl
    · exact h1
  exact ⟨hm, good_of_word (List.mem_filter.mp hm).2⟩
set_option maxHeartbeats 4000000 in
theorem sim_call {tag len : Nat} {ins : Instr} {ops : List Nat} {kc : Int} {mj na kind d : Nat} {rest : List Nat} {as r : List Value} {q : Mt × List Ea} (F : Fx b xt D cI cJ cZ cT sc p s0 m args meth c mi) (hN : Nw b xt D cI cJ cZ cT s0.heap s H locs) (hL : LR b xt la ls) (hll : ls.length = (mt_ mi).2.2.1) (hc : cells + k0 = s.1.length) (hs0 : s0.heap.size = b + k0)
    (hM : Met l q.1.1 (Cond.code q.1.1 q.1.2.1 q.1.2.2.1 q.1.2.2.2 :: tbG) (rmD d mc ms) (PreM b xt D cI cJ cZ cT sc as s) (PostM b xt D cI cJ cZ cT v s1) mc ms (fun q => b ≤ q))
    (hck : clB (mt_ mi).1.cls (tag, ins, pc, len, ops, kc) = true) (hq : nthO prL mj = some q) (hmd : (mPx mj).1 ≠ 3 → mdB q.1 (mPx mj) = true) (hops : ops = mj :: na :: kind :: rest) (hlen : lenOk ins len) (hd : decode (mt_ mi).2.1 pc = .ok (ins, len)) (hpop : popN na [] st = some (as, r)) (hcat : (r.map fun v => v.category).sum ≤ 8) (hrcv : rcv s kind (mCi mj) as = true) (hR : d + 2 ≤ R.frames ∧ 64 * d + 124 ≤ R.locals) (hroom : cells + mc ≤ R.cells ∧ slots + ms ≤ R.slots)
    (kk : ∀ (H1 : Heap) (locs1 : List Loc), va_P D vwCl (wld b xt cI cJ cZ cT s1) H1 → va_S (fun q => b ≤ q) s0.heap H1 locs1 → W p l e R s0 m args below meth c H1 locs1 (cells + mc) (slots + ms) Q (F0 m (pc + 3) la ((v.map (rv b xt)).toList ++ r.map (rv b xt)))) : W p l e R s0 m args below meth c H locs cells slots Q (F0 m pc la (st.map (rv b xt))) := by
  obtain ⟨⟨hx, hb, hml, hown, hts⟩, hK, hRO, hin⟩ := F
  obtain ⟨hP, hS⟩ := hN
  obtain ⟨xs, hx1, hx2, hx3⟩ := popN_eq _ _ _ _ _ hpop
  rw [List.append_nil] at hx1
  have hlas : as.length = na := by rw [hx1]; simp [hx3]
  have hst : st = as.reverse ++ r := by rw [hx1]; simp [hx2]
  have hcat' : 2 * (F0 m pc la (st.map (rv b xt))).monitorRoom + ((r.map (rv b xt)).map fun v => v.category).sum ≤ 8 := by
    rw [rv_cats]
    show 2 * 0 + _ ≤ 8
    omega
  have hsize : (F0 m pc la (st.map (rv b xt))).locals.size = (mt_ mi).2.2.1 := by rw [← hll]; exact hL.1
  have S : CallFix p m c (mt_ mi).2.1 (mt_ mi).2.2.1 s0 args tbG (mt_ mi).1.cls := ⟨hx, hb, hml, hown, hts⟩
  refine W_dn (s := s) hs0 hc hP (fun hsz => ?_)
  have hpre : ∀ U : State, U.heap = H → s0.WarmedH U.vm → PreM b xt D cI cJ cZ cT sc as s (as.map (rv b xt)).toArray U := fun U hU hW => ⟨rfl, by rw [hU]; exact hsz, by rw [hU]; exact hP, va_K.moved hW.alike hK, RO.go b xt sc (locs := locs) hRO hW (by rw [hU]; exact hS)⟩
  have hbl := PreM.blind b xt D cI cJ cZ cT sc as s
  subst hops
  cases ins with
  | invokevirtual idx =>
    obtain rfl : len = 3 := hlen
    rcases rest with _ | ⟨pl, _ | ⟨z, zs⟩⟩
    · simp [clB] at hck
    rotate_left
    · simp [clB] at hck
    simp only [clB, hq, Bool.and_eq_true, decide_eq_true_eq] at hck
    obtain ⟨⟨⟨⟨rfl, hk0, hna⟩, hlk⟩, hpd⟩, hcl⟩ := hck
    have hmd := hmd (by rw [hk0]; decide)
    unfold mdB at hmd
    rw [hk0] at hmd
    simp only [Bool.and_eq_true, decide_eq_true_eq] at hmd
    obtain ⟨⟨⟨⟨⟨m1, m2⟩, m3⟩, m4⟩, m5⟩, m6, m7⟩ := hmd
    unfold rcv at hrcv
    rw [if_pos rfl] at hrcv
    cases as with
    | nil => simp at hrcv
    | cons w As =>
      cases w with
      | ref cr =>
        dsimp only at hrcv
        have hcell : ∃ cellB : Cell, H[adr b xt cr]? = some cellB ∧ cellB.vm.isStatics = false ∧ s0.vm.findClass q.1.1.cls = some cellB.cls := by
          by_cases hlt : (cr : Nat) < 1000
          · rw [if_pos hlt, decide_eq_true_eq] at hrcv
            obtain ⟨v0, hv0, -⟩ := hP cr _ (wld_at b xt cI cJ cZ cT hrcv)
            have hv0 : vwCl[mCi mj]? = some v0 := hv0
            rw [hv0, decide_eq_true_eq] at hcl
            rw [adr_lt hlt, ← hcl]
            exact va_recv hK hP hv0 (show _ = some (b + cr, (.inr (mCi mj, flds b xt s cr 0 (fts.getD (mCi mj) [])) : va_E)) from wld_at b xt cI cJ cZ cT hrcv)
          · rw [if_neg hlt, decide_eq_true_eq] at hrcv
            obtain ⟨g1, g2⟩ := hrcv
            rw [g1] at hcl
            have hv0 : vwCl[100]? = none := rfl
            rw [hv0, decide_eq_true_eq] at hcl
            obtain ⟨j, hj, hcr⟩ : ∃ j : Nat, j < 2 ∧ (cr : Nat) = 1005 + j := by
              rcases g2 with h | h
              · exact ⟨0, by omega, h⟩
              · exact ⟨1, by omega, h⟩
            have e5 : adr b xt cr = xt (5 + j) := adr_str hcr
            rw [e5, hcl]
            exact vk_recv (adK := fun i => xt (5 + i)) hRO.2.2.1 hj hS
        refine call_on (va_runV (As := As.map (rv b xt)) (rest := r.map (rv b xt)) (b := adr b xt cr) S hM ⟨callB_of (na - 1) hts (good_ws m1) rfl rfl rfl (hts _ (tbG_mem m2 rfl)) (hts _ (tbG_mem hlk rfl)) ⟨m4.1, m4.2, hpd⟩ ⟨by show d + 1 + 1 ≤ _; omega, by show 8 + (q.1.2.2.1 + 11) + (64 * d + 60) ≤ _; omega⟩, hts _ (tbG_mem m6 rfl), hts _ (tbG_mem m7 rfl)⟩ ⟨hbl, hcell, hpre⟩ rfl (by simp at hlas ⊢; omega) hsize (by rw [hst]; simp [rv]) hcat' hd hroom) hS kk
      | _ => simp at hrcv
  | invokestatic idx =>
    obtain rfl : len = 3 := hlen
    rcases rest with _ | ⟨pl, _ | ⟨z, zs⟩⟩
    · simp [clB] at hck
    rotate_left
    · simp [clB] at hck
    simp only [clB, hq, Bool.and_eq_true, decide_eq_true_eq] at hck
    obtain ⟨⟨⟨hkd, hk0⟩, hlk⟩, hpd⟩ := hck
    have hmd := hmd (by rw [hk0]; decide)
    unfold mdB at hmd
    rw [hk0] at hmd
    simp only [Bool.and_eq_true, decide_eq_true_eq] at hmd
    obtain ⟨⟨⟨⟨⟨m1, m2⟩, m3⟩, m4⟩, m5⟩, m6⟩ := hmd
    have hR2 : (rmD d mc ms).frames + 1 ≤ R.frames ∧ 8 + (q.1.2.2.1 + 11) + (rmD d mc ms).locals ≤ R.locals := ⟨by show d + 1 + 1 ≤ _; omega, by show 8 + (q.1.2.2.1 + 11) + (64 * d + 60) ≤ _; omega⟩
    by_cases hk1 : kind = 1
    · rw [if_pos hk1] at hlk
      exact call_on (va_runS (As := as.map (rv b xt)) (rest := r.map (rv b xt)) S hM ⟨callB_of na hts (good_ws m1) rfl rfl rfl (hts _ (tbG_mem m2 rfl)) (hts _ (tbG_mem hlk rfl)) ⟨m4.1, m4.2, hpd⟩ hR2, hts _ (tbG_mem m6 rfl)⟩ ⟨hbl, hpre⟩ rfl (by simp [hlas]) hsize (by rw [hst]; simp) hcat' hd hroom) hS kk
    · rw [if_neg hk1] at hlk
      exact call_on (va_runSN (As := as.map (rv b xt)) (rest := r.map (rv b xt)) S hM ⟨va_cnB na hts (good_ws m1) rfl rfl rfl (hRO.2.2.2.2.2.2.1 _ (List.mem_of_getElem? hlk) rfl) (hts _ (tbG_mem m2 rfl)) ⟨m4.1, m4.2, hpd⟩ hR2, hts _ (tbG_mem m6 rfl), trivial⟩ ⟨hbl, hpre⟩ rfl (by simp [hlas]) hsize (by rw [hst]; simp) hcat' hd hroom) hS kk
  | invokespecial idx =>
    obtain rfl : len = 3 := hlen
    rcases rest with _ | ⟨pl, _ | ⟨z, zs⟩⟩
    · simp [clB] at hck
    rotate_left
    · simp [clB] at hck
    simp only [clB, hq, Bool.and_eq_true, decide_eq_true_eq] at hck
    obtain ⟨⟨⟨hkd, hk0, hna⟩, hlk⟩, hpd⟩ := hck
    have hmd := hmd (by rw [hk0]; decide)
    unfold mdB at hmd
    rw [hk0] at hmd
    simp only [Bool.and_eq_true, decide_eq_true_eq] at hmd
    obtain ⟨⟨⟨⟨⟨m1, m2⟩, m3⟩, m4⟩, m5⟩, m6, m7, m8⟩ := hmd
    have hR2 : (rmD d mc ms).frames + 1 ≤ R.frames ∧ 8 + (q.1.2.2.1 + 11) + (rmD d mc ms).locals ≤ R.locals := ⟨by show d + 1 + 1 ≤ _; omega, by show 8 + (q.1.2.2.1 + 11) + (64 * d + 60) ≤ _; omega⟩
    unfold rcv at hrcv
    rw [if_neg (by omega), if_pos hkd] at hrcv
    cases as with
    | nil => simp at hrcv
    | cons w As =>
      cases w with
      | ref cr =>
        have hgw := good_ws (q := q) m1
        rw [m8] at hgw m1 hM
        by_cases hk1 : kind = 2
        · rw [if_pos hk1] at hlk
          exact call_on (va_runI (As := As.map (rv b xt)) (rest := r.map (rv b xt)) (b := adr b xt cr) S hM ⟨callB_of (na - 1) hts hgw rfl rfl rfl (hts _ (tbG_mem m2 rfl)) (hts _ (tbG_mem hlk rfl)) ⟨m4.1, m4.2, hpd⟩ hR2, m7, hts _ (tbG_mem m6 rfl)⟩ ⟨hbl, hpre⟩ rfl (by simp at hlas ⊢; omega) hsize (by rw [hst]; simp [rv]) hcat' hd hroom) hS kk
        · rw [if_neg hk1] at hlk
          exact call_on (va_runIN (As := As.map (rv b xt)) (rest := r.map (rv b xt)) (b := adr b xt cr) S hM ⟨va_cnB (na - 1) hts hgw rfl rfl rfl (hRO.2.2.2.2.2.2.1 _ (List.mem_of_getElem? hlk) rfl) (hts _ (tbG_mem m2 rfl)) ⟨m4.1, m4.2, hpd⟩ hR2, m7, hts _ (tbG_mem m6 rfl)⟩ ⟨hbl, hpre⟩ rfl (by simp at hlas ⊢; omega) hsize (by rw [hst]; simp [rv]) hcat' hd hroom) hS kk
      | _ => simp at hrcv
  | _ => simp [clB] at hck
end Walk1
