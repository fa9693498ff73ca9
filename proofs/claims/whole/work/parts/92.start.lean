def R_law : String := "RumourRentLaw"
def lw_P (b : Addr) (xs : List Int32) (args : Array Value) (s : State) : Prop := args = #[.ref b] ∧ s.IntsAt b xs ∧ xs.length ≤ 3072 ∧ (Jvm.Cond.and given_1 narrow_1).before args s = true
def lw_Q (_ : Array Value) (s : State) (o : Outcome) (t : State) : Prop := o = .returned (some (.int 1)) ∧ Framed s o t [] 600000 7302250
def lw_Z (below : List Frame) (a : Array Value) (s : State) : State → Prop := fun t => ∃ o, t.status = .running ∧ Ended t below o ∧ lw_Q a s o t
/-- the law's own end, with 1 on the stack, nothing written that was there before, its room as the claim has it -/
theorem lw_ret {p : Program} {l : Launch} {e : Env} {s : State} {m : MethodId} {below : List Frame} {meth : Method} {c : Code} {b : Nat} (hx : p.tables.exec = Jvm.exec) (hb : c.code = code) (hr : meth.sig.returnType = ret) (hlocks : meth.locks = false) {pc : Nat} {H : Heap} {ls : Array Slot} (hdg : decode code pc = .ok (.ireturn, 1)) : W p l e room_1 s m #[Value.ref b] below meth c H [] 600000 7302250 (lw_Z below #[Value.ref b] s) (F0 m pc ls [.int 1]) := by
  intro T hT X
  obtain ⟨fs, hret, hrun, hended, hW, hframe⟩ := X.leave (v := some (.int 1)) (hlocks := hlocks) (fun h => by rw [hr] at h; cases h)
  have hmeth' : T.vm.method? m = some meth := X.method'
  refine ⟨T.setFrames fs, ?_, .returned (some (.int 1)), hrun, hended, rfl, ⟨_, rfl⟩, hW, hframe⟩
  jvm_step X.here [X.here.top, hx, hb, hdg, hmeth', hr, ret, narrow_b1]
  (try refine ⟨rfl, ?_⟩); (try refine ⟨rfl, ?_⟩)
  first | (intro acts; rw [hret _ acts rfl rfl rfl]) | rw [hret _ _ rfl rfl rfl]
  exact Steps.refl _
/-- what holds at the law's entry: the machine, the code, the tables' words (any of lw_tbl by 'hts w (by decide +kernel)'), the script of L ints xs at the cell b, what the Statement gives of the start (any of its parts by flat_of_before) -/
def lw_At (p : Program) (s : State) (m : MethodId) (meth : Method) (c : Code) (b L : Nat) (xs : Nat → Int32) : Prop :=
  p.tables.exec = Jvm.exec ∧ c.code = code ∧ meth.sig.returnType = ret ∧ c.maxLocals = 4 ∧ s.vm.findClass R_law = some m.cls ∧ (∀ w ∈ lw_tbl, w.before #[Value.ref b] s = true) ∧ va_X b L xs s s.heap ∧ b < s.heap.size ∧ meth.locks = false ∧ (Jvm.Cond.and given_1 narrow_1).before #[Value.ref b] s = true
/-! the start: what the Statement gives of the statics and of the texts -/
def nar0 : Cond := Jvm.Cond.and given_1 narrow_1
theorem fl_at {args : Array Value} {s : State} {w : Cond} (i : Nat) (h : nar0.before args s = true) (hi : (flatC nar0)[i]? = some w) : w.before args s = true := flat_of_before _ h w (List.mem_of_getElem? hi)
theorem st_words : ∀ j, j < 4 → (flatC nar0)[10 + 11 * j]? = some (.arrayOf (.static "RumourRent" (stN.getD j "") "[I") .int) ∧ (flatC nar0)[11 + 11 * j]? = some (.eq (.length (.static "RumourRent" (stN.getD j "") "[I")) (.int (Int32.ofNat (roT.getD j []).length))) ∧ ∀ k, k < (roT.getD j []).length → (flatC nar0)[12 + 11 * j + k]? = some (.eq (.elem (.static "RumourRent" (stN.getD j "") "[I") (.int (Int32.ofNat k))) (.int ((roT.getD j []).getD k 0))) := by decide +kernel
def skB : List Nat := [53, 281]
theorem sk_words : ∀ i, i < 2 → lenTB.getD i 0 < 2 ^ 31 ∧ (flatC nar0)[skB.getD i 0]? = some (.exactly (.string "RumourRent$Reader" (skI.getD i 0)) "java/lang/String") ∧ (flatC nar0)[skB.getD i 0 + 1]? = some (.eq (.field (.string "RumourRent$Reader" (skI.getD i 0)) "java/lang/String" "coder" "B") (.int 0)) ∧ (flatC nar0)[skB.getD i 0 + 2]? = some (.arrayOf (.field (.string "RumourRent$Reader" (skI.getD i 0)) "java/lang/String" "value" "[B") .byte) ∧ (flatC nar0)[skB.getD i 0 + 3]? = some (.eq (.length (.field (.string "RumourRent$Reader" (skI.getD i 0)) "java/lang/String" "value" "[B")) (.int (Int32.ofNat (lenTB.getD i 0)))) ∧ ∀ j, j < lenTB.getD i 0 → (flatC nar0)[skB.getD i 0 + 4 + j]? = some (.eq (.elem (.field (.string "RumourRent$Reader" (skI.getD i 0)) "java/lang/String" "value" "[B") (.int (Int32.ofNat j))) (.int ((roTB.getD i []).getD j 0))) := by decide +kernel
theorem sk_refs : ∀ j, j < 2 → lw_tbl[([587, 642] : List Nat).getD j 0]? = some (.stringRef "RumourRent$Reader" (skI.getD j 0) (skT.getD j "")) := by decide +kernel
theorem ls_words : ∀ j, j < 4 → lw_tbl[([789, 791, 793, 795] : List Nat).getD j 0]? = some (.laysStatic "RumourRent" (stN.getD j "") "[I") := by decide +kernel
theorem ls_cs : Cond.laysStatic "java/lang/String" "COMPACT_STRINGS" "Z" ∈ lw_tbl := List.mem_of_getElem? (i := 597) (by decide +kernel)
theorem ls_fm : Cond.laysStatic "jdk/internal/util/Preconditions" "SIOOBE_FORMATTER" "Ljava/util/function/BiFunction;" ∈ lw_tbl := List.mem_of_getElem? (i := 605) (by decide +kernel)
theorem in_RR : Cond.initialized "RumourRent" ∈ lw_tbl := List.mem_of_getElem? (i := 115) (by decide +kernel)
theorem in_St : Cond.initialized "java/lang/String" ∈ lw_tbl := List.mem_of_getElem? (i := 127) (by decide +kernel)
theorem in_Pc : Cond.initialized "jdk/internal/util/Preconditions" ∈ lw_tbl := List.mem_of_getElem? (i := 129) (by decide +kernel)

theorem four {P : Nat → Nat → Prop} (h : ∀ j, j < 4 → ∃ t, P j t) : ∃ f : Nat → Nat, ∀ j, j < 4 → P j (f j) := by
  have h2 : ∀ j, ∃ t, j < 4 → P j t := fun j => by
    by_cases hj : j < 4
    · obtain ⟨t, ht⟩ := h j hj
      exact ⟨t, fun _ => ht⟩
    · exact ⟨0, fun q => absurd q hj⟩
  exact ⟨fun j => (h2 j).choose, fun j hj => (h2 j).choose_spec hj⟩
theorem kinds_ok {args : Array Value} {s : State} (hts : ∀ w ∈ lw_tbl, w.before args s = true) : ∃ (D : va_G) (cI cJ cZ cT : ClassId), va_K D vwCl (tysM cI cJ cZ cT) s := by
  obtain ⟨c0, i0, k0⟩ := u_known (C := RX0) (T := TX0) (N := 1) (n := 1) hts inX0 (hts _ (List.mem_of_getElem? (i := 394) (by decide +kernel)))
  obtain ⟨c1, i1, k1⟩ := u_known (C := RX1) (T := TX1) (N := 5) (n := 5) hts inX1 (hts _ (List.mem_of_getElem? (i := 440) (by decide +kernel)))
  obtain ⟨c2, i2, k2⟩ := u_known (C := RX2) (T := TX2) (N := 2) (n := 2) hts inX2 (hts _ (List.mem_of_getElem? (i := 381) (by decide +kernel)))
  obtain ⟨c3, i3, k3⟩ := u_known (C := RX3) (T := TX3) (N := 7) (n := 7) hts inX3 (hts _ (List.mem_of_getElem? (i := 463) (by decide +kernel)))
  obtain ⟨c4, i4, k4⟩ := u_known (C := RX4) (T := TX4) (N := 9) (n := 9) hts inX4 (hts _ (List.mem_of_getElem? (i := 258) (by decide +kernel)))
  obtain ⟨c5, i5, k5⟩ := u_known (C := RX5) (T := TX5) (N := 10) (n := 10) hts inX5 (hts _ (List.mem_of_getElem? (i := 341) (by decide +kernel)))
  obtain ⟨c6, i6, k6⟩ := u_known (C := RX6) (T := TX6) (N := 3) (n := 3) hts inX6 (hts _ (List.mem_of_getElem? (i := 241) (by decide +kernel)))
  obtain ⟨c7, i7, k7⟩ := u_known (C := RX7) (T := TX7) (N := 9) (n := 9) hts inX7 (hts _ (List.mem_of_getElem? (i := 404) (by decide +kernel)))
  obtain ⟨c8, i8, k8⟩ := u_known (C := RX8) (T := TX8) (N := 6) (n := 6) hts inX8 (hts _ (List.mem_of_getElem? (i := 307) (by decide +kernel)))
  obtain ⟨c9, i9, k9⟩ := u_known (C := RX9) (T := TX9) (N := 16) (n := 16) hts inX9 (hts _ (List.mem_of_getElem? (i := 144) (by decide +kernel)))
  obtain ⟨c10, i10, k10⟩ := u_known (C := RX10) (T := TX10) (N := 14) (n := 14) hts inX10 (hts _ (List.mem_of_getElem? (i := 136) (by decide +kernel)))
  obtain ⟨c11, i11, k11⟩ := u_known (C := RX11) (T := TX11) (N := 34) (n := 34) hts inX11 (hts _ (List.mem_of_getElem? (i := 1324) (by decide +kernel)))
  obtain ⟨cI, kI, mI, a1, a2, a3⟩ := Cond.arrayClass_spec (hts _ (List.mem_filter.mp ac_I).1)
  obtain ⟨cJ, kJ, mJ, b1, b2, b3⟩ := Cond.arrayClass_spec (hts _ (List.mem_filter.mp ac_J).1)
  obtain ⟨cZ, kZ, mZ, d1, d2, d3⟩ := Cond.arrayClass_spec (hts _ (List.mem_filter.mp ac_Z).1)
  obtain ⟨mT, cT, kT, t1, -, t2, t3, t4⟩ := Cond.arrayOver_spec (hts _ ac_T)
  refine ⟨(fun k => ([c0, c1, c2, c3, c4, c5, c6, c7, c8, c9, c10, c11] : List ClassId).getD k 0, fun k => ([i0, i1, i2, i3, i4, i5, i6, i7, i8, i9, i10, i11] : List (Nat → Nat)).getD k (fun _ => 0)), cI, cJ, cZ, cT, ?_, ?_⟩
  · intro k q hq
    match k, hq with
    | 0, hq => cases hq; exact k0
    | 1, hq => cases hq; exact k1
    | 2, hq => cases hq; exact k2
    | 3, hq => cases hq; exact k3
    | 4, hq => cases hq; exact k4
    | 5, hq => cases hq; exact k5
    | 6, hq => cases hq; exact k6
    | 7, hq => cases hq; exact k7
    | 8, hq => cases hq; exact k8
    | 9, hq => cases hq; exact k9
    | 10, hq => cases hq; exact k10
    | 11, hq => cases hq; exact k11
    | k + 12, hq => simp [vwCl] at hq
  · intro k q hq
    match k, hq with
    | 0, hq => cases hq; exact ⟨fun n z => ⟨fun k h => (by cases h), kI, a2, mI, a3⟩, a1⟩
    | 1, hq => cases hq; exact ⟨fun n z => ⟨fun k h => (by cases h), kJ, b2, mJ, b3⟩, b1⟩
    | 2, hq => cases hq; exact ⟨fun n z => ⟨fun k h => (by cases h), kZ, d2, mZ, d3⟩, d1⟩
    | 3, hq => cases hq; exact ⟨fun n z => ⟨fun k h => (by cases h), kT, t2, mT, t3⟩, kT, mT, t2, t3, t1, t4⟩
    | k + 4, hq => simp [tysM] at hq
theorem ro_ok {p : Program} {s : State} {m : MethodId} {meth : Method} {c : Code} {b L : Nat} {xs : Nat → Int32} (C0 : lw_At p s m meth c b L xs) : ∃ xt : Nat → Nat, xt 0 = b ∧ RO s.heap.size xt (L, xs) s s.heap := by
  obtain ⟨hx, hb, hr, hml, hown, hts, hX, hbl, hlocks, hgv⟩ := id C0
  have hA : ∀ a : Nat, a < s.heap.size → ¬ (fun q : Nat => s.heap.size ≤ q) a := fun a h => Nat.not_le.mpr h
  have hgv : nar0.before #[Value.ref b] s = true := hgv
  obtain ⟨t, ht⟩ := four (P := fun j t => va_Z "RumourRent" (stN.getD j "") "[I" (.ref t) (fun q : Nat => s.heap.size ≤ q) s s.heap ∧ va_T .int t (roT.getD j []).length (fun k => .int ((roT.getD j []).getD k 0)) (fun q : Nat => s.heap.size ≤ q) s s.heap) (fun j hj => by
    obtain ⟨w1, w2, w3⟩ := st_words j hj
    have hN : (roT.getD j []).length < 2 ^ 31 := by
      have : ∀ j, j < 4 → (roT.getD j []).length < 2 ^ 31 := by decide +kernel
      exact this j hj
    obtain ⟨t, e1, e2⟩ := va_Tof (A := fun q : Nat => s.heap.size ≤ q) (f := fun k => .int ((roT.getD j []).getD k 0)) hN (fl_at _ hgv w1) (va_eqt (fl_at _ hgv w2)) (fun k hk => va_eqt (fl_at _ hgv (w3 k hk))) hA
    exact ⟨t, va_Zref (hts _ (List.mem_of_getElem? (ls_words j hj))) (hts _ in_RR) e1 hA, e2⟩)
  obtain ⟨adK, adV, hS, hSe⟩ := vk_Sof (args := #[Value.ref b]) (s := s) (N := 2) (tm := fun i => .string "RumourRent$Reader" (skI.getD i 0)) (len := lenTB) (byt := roTB) (A := fun q : Nat => s.heap.size ≤ q) (fun i hi => (sk_words i hi).1) (fun i hi => fl_at _ hgv (sk_words i hi).2.1) (fun i hi => fl_at _ hgv (sk_words i hi).2.2.1) (fun i hi => fl_at _ hgv (sk_words i hi).2.2.2.1) (fun i hi => fl_at _ hgv (sk_words i hi).2.2.2.2.1) (fun i hi j hj => fl_at _ hgv ((sk_words i hi).2.2.2.2.2 j hj)) (fun i j hi hj hij => by
    have h1 : (Cond.not (Cond.eq (.string "RumourRent$Reader" (skI.getD 0 0)) (.string "RumourRent$Reader" (skI.getD 1 0)))).before #[Value.ref b] s = true := fl_at 296 hgv (by decide +kernel)
    rcases (show (i = 0 ∧ j = 1) ∨ (i = 1 ∧ j = 0) by omega) with ⟨rfl, rfl⟩ | ⟨rfl, rfl⟩
    · exact Or.inl h1
    · exact Or.inr h1) hA
  have hR : ∀ j, j < 2 → vk_R "RumourRent$Reader" (skI.getD j 0) (skT.getD j "") (adK j) s := fun j hj => vk_R.of (hts _ (List.mem_of_getElem? (sk_refs j hj))) (hSe j hj)
  have hCS := va_Zof (A := fun q : Nat => s.heap.size ≤ q) (hts _ ls_cs) (hts _ in_St) (va_eqi (z := 1) (fl_at 4 hgv (by decide +kernel))) hA
  have hFM := va_Zqof (A := fun q : Nat => s.heap.size ≤ q) (hts _ ls_fm) (hts _ in_Pc) (fl_at 5 hgv (by decide +kernel)) hA
  have hNs : ∀ w ∈ lw_tbl, nestW w = true → va_Nw w s := fun w hw hn => va_Nw.of (by cases w <;> first | rfl | (simp [nestW] at hn; done)) (hts w hw)
  have hAO := va_AO.of (hts _ ac_T)
  obtain ⟨f9, f20, hf⟩ : ∃ f9 f20 : Nat, va_Z "jdk/internal/util/Preconditions" "SIOOBE_FORMATTER" "Ljava/util/function/BiFunction;" (if f20 = 0 then .null else .ref f9) (fun q : Nat => s.heap.size ≤ q) s s.heap := by
    rcases hFM with h | ⟨t9, h⟩
    · exact ⟨0, 0, h⟩
    · exact ⟨t9, 1, h⟩
  refine ⟨fun k => if k = 0 then b else if k < 5 then t (k - 1) else if k < 7 then adK (k - 5) else if k < 9 then adV (k - 7) else if k = 9 then f9 else f20, rfl, ⟨hX, hbl, hbl⟩, fun j hj => ?_, ?_, fun j hj => ?_, hCS, ?_, hNs, hAO⟩
  · have e1 : ¬ 1 + j = 0 := by omega
    have e2 : 1 + j < 5 := by omega
    have e3 : 1 + j - 1 = j := by omega
    simp only [if_neg e1, if_pos e2, e3]
    exact ht j hj
  · have h1 : ∀ i, i < 2 → (fun i => if 5 + i = 0 then b else if 5 + i < 5 then t (5 + i - 1) else if 5 + i < 7 then adK (5 + i - 5) else if 5 + i < 9 then adV (5 + i - 7) else if 5 + i = 9 then f9 else f20) i = adK i := fun i hi => by
      have e1 : ¬ 5 + i = 0 := by omega
      have e2 : ¬ 5 + i < 5 := by omega
      have e3 : 5 + i < 7 := by omega
      have e4 : 5 + i - 5 = i := by omega
      simp only [if_neg e1, if_neg e2, if_pos e3, e4]
    have h2 : ∀ i, i < 2 → (fun i => if 7 + i = 0 then b else if 7 + i < 5 then t (7 + i - 1) else if 7 + i < 7 then adK (7 + i - 5) else if 7 + i < 9 then adV (7 + i - 7) else if 7 + i = 9 then f9 else f20) i = adV i := fun i hi => by
      have e1 : ¬ 7 + i = 0 := by omega
      have e2 : ¬ 7 + i < 5 := by omega
      have e3 : ¬ 7 + i < 7 := by omega
      have e4 : 7 + i < 9 := by omega
      have e5 : 7 + i - 7 = i := by omega
      simp only [if_neg e1, if_neg e2, if_neg e3, if_pos e4, e5]
    refine ⟨fun i hi => ?_, fun i j hi hj hij => ?_⟩
    · rw [h1 i hi, h2 i hi]
      exact hS.1 i hi
    · rw [h1 i hi, h1 j hj] at hij
      exact hS.2 i j hi hj hij
  · have e1 : ¬ 5 + j = 0 := by omega
    have e2 : ¬ 5 + j < 5 := by omega
    have e3 : 5 + j < 7 := by omega
    have e4 : 5 + j - 5 = j := by omega
    simp only [if_neg e1, if_neg e2, if_pos e3, e4]
    exact hR j hj
  · exact hf
set_option maxHeartbeats 4000000 in
/-- the claim out of a run of the machine of numbers -/
theorem start_of {p : Program} {e : Env} {s : State} {m : MethodId} {below : List Frame} {meth : Method} {c : Code} (l : Launch) {b L : Nat} {xs : Nat → Int32} (C0 : lw_At p s m meth c b L xs) {n : Nat} {s' : Mm} (hrun : run (L, xs) n 1000 319 0 (padL 4 (entL [.ref 1000])) [] mm0 = some (some (.int 1), s')) (hsz : s'.1.length ≤ 600000 ∧ szK cnN s'.1 ≤ 7302250) : W p l e room_1 s m #[Value.ref b] below meth c s.heap [] 0 0 (lw_Z below #[Value.ref b] s) (entryFrame m ([Value.ref b] : List Value).toArray 4) := by
  obtain ⟨hx, hb, hr, hml, hown, hts, hX, hbl, hlocks, hgv⟩ := id C0
  obtain ⟨D, cI, cJ, cZ, cT, hK⟩ := kinds_ok hts
  obtain ⟨xt, hxt, hRO⟩ := ro_ok C0
  have hq : nthO prL 319 = some (mt_319, pg_319) := rfl
  have hmt : mt_ 319 = mt_319 := mt_of hq
  have F : Fx s.heap.size xt D cI cJ cZ cT (L, xs) p s m #[Value.ref b] meth c 319 := ⟨⟨hx, by rw [hmt]; exact hb, by rw [hmt]; exact hml, by rw [hmt]; exact hown, fun w hw => hts w (List.mem_filter.mp hw).1⟩, hK, hRO, fun h => by rw [hmt] at h; exact absurd h (by decide)⟩
  have hrv : rv s.heap.size xt (.ref 1000) = .ref b := by
    show Value.ref (adr s.heap.size xt 1000) = _
    rw [adr_ge (by decide), show (1000 : Nat) - 1000 = 0 from rfl, hxt]
  have hl := lv_entry ([Value.ref b]) (n := 4) (Nat.le_of_ble_eq_true rfl)
  rw [lg_entry_eq]
  generalize (lg_sl ([Value.ref b]) ++ List.replicate (4 - (lg_sl ([Value.ref b])).length) Slot.unset).toArray = la at hl ⊢
  have hL : LR s.heap.size xt la (padL 4 (entL [.ref 1000])) := by
    unfold LR
    rw [prs_pad, prs_ent]
    simp only [List.map_cons, List.map_nil, hrv]
    exact hl
  have hpc0 : pcO 319 0 = 0 := pc_zero hq
  have := walk (p := p) (l := l) (e := e) (R := room_1) (s0 := s) (m := m) (args := #[Value.ref b]) (below := below) (meth := meth) (c := c) (Q := lw_Z below #[Value.ref b] s) (k0 := 0) (z0 := 0) (b := s.heap.size) (xt := xt) (D := D) (cI := cI) (cJ := cJ) (cZ := cZ) (cT := cT) (sc := (L, xs)) (mi := 319) (d := 1000) (r := some (.int 1)) (s' := s') (N := n) (fun k _ => met_all l _ _ _ _ _ _ _ _ k) F rfl ⟨Nat.le_of_ble_eq_true rfl, Nat.le_of_ble_eq_true rfl⟩ (by show _ ≤ 600000 + 0; omega) (by show _ ≤ 7302250 + 0; omega) ?_ n (Nat.le_refl n) 0 (padL 4 (entL [.ref 1000])) [] mm0 la s.heap [] 0 0 hrun ⟨fun k q h => by simp [wld, wldF, mm0] at h, va_S.rf⟩ hL rfl rfl (by rw [hmt]; rfl)
  · rw [hpc0] at this
    exact this
  · intro i ei st la H locs cells slots hat hrt hd hlen hN hc hz
    have hce : cells ≤ 600000 := by omega
    have hse : slots ≤ 7302250 := by omega
    refine W.widen (k := 600000) (n := 7302250) hce hse ?_
    refine va_forget (fun q hq => hN.2.2.2 q hq) ?_
    obtain ⟨tag, ins, pc, len, ops, kc⟩ := ei
    rcases rtV_cases hrt with ⟨rfl, h1, rfl, h2⟩ | ⟨x, ty, rfl, h1, rfl, h2, h3⟩ | ⟨x, rfl, h1, rfl, h2⟩ | ⟨C, w, rfl, h1, rfl, h2, h3⟩
    · cases h2
    · have hx1 : x = 1 := (Value.int.inj (Option.some.inj h2)).symm
      subst hx1
      obtain rfl : len = 1 := hlen
      rw [hmt] at hd
      exact lw_ret hx hb hr hlocks hd
    · cases h2
    · have := h2
      rcases h3 with rfl | ⟨a, rfl⟩ <;> cases this

