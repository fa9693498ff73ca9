/-! the instructions that read or write cells, or make them -/
def tbG : List Cond := lw_tbl.filter goodWord
theorem tbG_mem {w : Cond} {i : Nat} (h : lw_tbl[i]? = some w) (hg : goodWord w = true) : w ∈ tbG := List.mem_filter.mpr ⟨List.mem_of_getElem? h, hg⟩
def nestW : Cond → Bool
  | .fieldLinkNest .. => true
  | .methodLinkNest .. => true
  | _ => false
def tyT : FieldType → Nat
  | .int => 0
  | .long => 1
  | .boolean => 3
  | .object _ => 2
  | .array _ => 2
  | _ => 9
def tysM (cI cJ cZ cT : ClassId) : List (ClassId × FieldType) := [(cI, .int), (cJ, .long), (cZ, .boolean), (cT, .object "RumourRent$Text")]
def clsG (ci : Nat) (q : vw_C) : Prop := (∀ w ∈ u_ws q.1 q.2.1 q.2.2, w ∈ tbG) ∧ ∃ ty0 : Nat → FieldType, (∀ k, k < q.2.2 → parseFieldDescriptor (q.2.1 k).2.2.1 = some (ty0 k)) ∧ (∀ a, a < q.2.2 → ∀ b, b < q.2.2 → a ≠ b → (q.2.1 a).2.1 ≠ (q.2.1 b).2.1) ∧ (fts.getD ci []).length = q.2.2 ∧ (∀ k, k < q.2.2 → nthO (fts.getD ci []) k = some (tyT (ty0 k)) ∧ (q.2.1 k).1 = q.1) ∧ Cond.instantiable q.1 q.2.2 ∈ tbG ∧ Cond.initialized q.1 ∈ tbG ∧ nthO cnN ci = some q.2.2
theorem clsG_0 : clsG 0 (RX0, TX0, 1) := ⟨fun w h => List.mem_filter.mpr ⟨inX0 w h, List.all_eq_true.mp (show (wsX00).all goodWord = true by decide +kernel) w h⟩, tyX0, tyX0_ok, nmX0, by decide +kernel, by decide +kernel, tbG_mem (i := 394) (by decide +kernel) rfl, tbG_mem (i := 122) (by decide +kernel) rfl, by decide +kernel⟩
theorem clsG_1 : clsG 1 (RX1, TX1, 5) := ⟨fun w h => List.mem_filter.mpr ⟨inX1 w h, List.all_eq_true.mp (show (wsX10).all goodWord = true by decide +kernel) w h⟩, tyX1, tyX1_ok, nmX1, by decide +kernel, by decide +kernel, tbG_mem (i := 440) (by decide +kernel) rfl, tbG_mem (i := 124) (by decide +kernel) rfl, by decide +kernel⟩
theorem clsG_2 : clsG 2 (RX2, TX2, 2) := ⟨fun w h => List.mem_filter.mpr ⟨inX2 w h, List.all_eq_true.mp (show (wsX20).all goodWord = true by decide +kernel) w h⟩, tyX2, tyX2_ok, nmX2, by decide +kernel, by decide +kernel, tbG_mem (i := 381) (by decide +kernel) rfl, tbG_mem (i := 121) (by decide +kernel) rfl, by decide +kernel⟩
theorem clsG_3 : clsG 3 (RX3, TX3, 7) := ⟨fun w h => List.mem_filter.mpr ⟨inX3 w h, List.all_eq_true.mp (show (wsX30).all goodWord = true by decide +kernel) w h⟩, tyX3, tyX3_ok, nmX3, by decide +kernel, by decide +kernel, tbG_mem (i := 463) (by decide +kernel) rfl, tbG_mem (i := 125) (by decide +kernel) rfl, by decide +kernel⟩
theorem clsG_4 : clsG 4 (RX4, TX4, 9) := ⟨fun w h => List.mem_filter.mpr ⟨inX4 w h, List.all_eq_true.mp (show (wsX40).all goodWord = true by decide +kernel) w h⟩, tyX4, tyX4_ok, nmX4, by decide +kernel, by decide +kernel, tbG_mem (i := 258) (by decide +kernel) rfl, tbG_mem (i := 118) (by decide +kernel) rfl, by decide +kernel⟩
theorem clsG_5 : clsG 5 (RX5, TX5, 10) := ⟨fun w h => List.mem_filter.mpr ⟨inX5 w h, List.all_eq_true.mp (show (wsX50).all goodWord = true by decide +kernel) w h⟩, tyX5, tyX5_ok, nmX5, by decide +kernel, by decide +kernel, tbG_mem (i := 341) (by decide +kernel) rfl, tbG_mem (i := 120) (by decide +kernel) rfl, by decide +kernel⟩
theorem clsG_6 : clsG 6 (RX6, TX6, 3) := ⟨fun w h => List.mem_filter.mpr ⟨inX6 w h, List.all_eq_true.mp (show (wsX60).all goodWord = true by decide +kernel) w h⟩, tyX6, tyX6_ok, nmX6, by decide +kernel, by decide +kernel, tbG_mem (i := 241) (by decide +kernel) rfl, tbG_mem (i := 117) (by decide +kernel) rfl, by decide +kernel⟩
theorem clsG_7 : clsG 7 (RX7, TX7, 9) := ⟨fun w h => List.mem_filter.mpr ⟨inX7 w h, List.all_eq_true.mp (show (wsX70).all goodWord = true by decide +kernel) w h⟩, tyX7, tyX7_ok, nmX7, by decide +kernel, by decide +kernel, tbG_mem (i := 404) (by decide +kernel) rfl, tbG_mem (i := 123) (by decide +kernel) rfl, by decide +kernel⟩
theorem clsG_8 : clsG 8 (RX8, TX8, 6) := ⟨fun w h => List.mem_filter.mpr ⟨inX8 w h, List.all_eq_true.mp (show (wsX80).all goodWord = true by decide +kernel) w h⟩, tyX8, tyX8_ok, nmX8, by decide +kernel, by decide +kernel, tbG_mem (i := 307) (by decide +kernel) rfl, tbG_mem (i := 119) (by decide +kernel) rfl, by decide +kernel⟩
theorem clsG_9 : clsG 9 (RX9, TX9, 16) := ⟨fun w h => List.mem_filter.mpr ⟨inX9 w h, List.all_eq_true.mp (show (wsX90).all goodWord = true by decide +kernel) w h⟩, tyX9, tyX9_ok, nmX9, by decide +kernel, by decide +kernel, tbG_mem (i := 144) (by decide +kernel) rfl, tbG_mem (i := 116) (by decide +kernel) rfl, by decide +kernel⟩
theorem clsG_10 : clsG 10 (RX10, TX10, 14) := ⟨fun w h => List.mem_filter.mpr ⟨inX10 w h, List.all_eq_true.mp (show (wsX100).all goodWord = true by decide +kernel) w h⟩, tyX10, tyX10_ok, nmX10, by decide +kernel, by decide +kernel, tbG_mem (i := 136) (by decide +kernel) rfl, tbG_mem (i := 115) (by decide +kernel) rfl, by decide +kernel⟩
theorem clsG_11 : clsG 11 (RX11, TX11, 34) := ⟨fun w h => List.mem_filter.mpr ⟨inX11 w h, List.all_eq_true.mp (show (wsX110).all goodWord = true by decide +kernel) w h⟩, tyX11, tyX11_ok, nmX11, by decide +kernel, by decide +kernel, tbG_mem (i := 1324) (by decide +kernel) rfl, tbG_mem (i := 126) (by decide +kernel) rfl, by decide +kernel⟩
theorem cls_all : ∀ (ci : Nat) (q : vw_C), vwCl[ci]? = some q → clsG ci q
  | 0, q, h => by
    obtain rfl := Option.some.inj h
    exact clsG_0
  | 1, q, h => by
    obtain rfl := Option.some.inj h
    exact clsG_1
  | 2, q, h => by
    obtain rfl := Option.some.inj h
    exact clsG_2
  | 3, q, h => by
    obtain rfl := Option.some.inj h
    exact clsG_3
  | 4, q, h => by
    obtain rfl := Option.some.inj h
    exact clsG_4
  | 5, q, h => by
    obtain rfl := Option.some.inj h
    exact clsG_5
  | 6, q, h => by
    obtain rfl := Option.some.inj h
    exact clsG_6
  | 7, q, h => by
    obtain rfl := Option.some.inj h
    exact clsG_7
  | 8, q, h => by
    obtain rfl := Option.some.inj h
    exact clsG_8
  | 9, q, h => by
    obtain rfl := Option.some.inj h
    exact clsG_9
  | 10, q, h => by
    obtain rfl := Option.some.inj h
    exact clsG_10
  | 11, q, h => by
    obtain rfl := Option.some.inj h
    exact clsG_11
  | n + 12, q, h => by
    exact absurd h (by simp [vwCl])
theorem ac_I : Cond.arrayClass .int ∈ tbG := tbG_mem (i := 239) (by decide +kernel) rfl
theorem ac_J : Cond.arrayClass .long ∈ tbG := tbG_mem (i := 1435) (by decide +kernel) rfl
theorem ac_Z : Cond.arrayClass .boolean ∈ tbG := tbG_mem (i := 1436) (by decide +kernel) rfl
theorem ac_T : Cond.arrayOver (.object "RumourRent$Text") ∈ lw_tbl := List.mem_of_getElem? (i := 306) (by decide +kernel)
theorem cp_nat : Cond.native arraycopyName ∈ tbG := tbG_mem (i := 891) (by decide +kernel) rfl
theorem cp_sta : Cond.static arraycopyName ∈ tbG := tbG_mem (i := 890) (by decide +kernel) rfl
theorem cp_ini : Cond.initialized "java/lang/System" ∈ tbG := tbG_mem (i := 134) (by decide +kernel) rfl
theorem ob_ins : Cond.instanceMethod objectInit ∈ tbG := tbG_mem (i := 141) (by decide +kernel) rfl
theorem ob_cod : Cond.code objectInit ⟨#[0xb1]⟩ 1 none ∈ tbG := tbG_mem (i := 142) (by decide +kernel) rfl
def stN : List String := ["LOWEST_FIRST", "HIGHEST_FIRST", "WORD_BETWEEN", "HIGHEST_SECOND"]
def skI : List Nat := [161, 174]
def skT : List String := ["believesrent    road    rumour  rooms   tell    hush    day     purse   house   number  truth   near    free    all     income  to      at      of      mean    kept    if      then    else    end     or      and     not     ", "<>=#+-*/();"]
def prN (n : Nat) : MethodName := match n with
  | 2 => arraycopyName
  | 5 => Lib.Math.max.name
  | 6 => Lib.Math.min.name
  | 7 => Lib.MathLoose.max_long.x
  | _ => Lib.MathLoose.min_long.x
theorem mmax_sta : Cond.static Lib.Math.max.name ∈ tbG := tbG_mem (i := 666) (by decide +kernel) rfl
theorem mmax_cod : Cond.code Lib.Math.max.name Lib.Math.max.code 2 (some .int) ∈ tbG := tbG_mem (i := 667) (by decide +kernel) rfl
theorem mmin_sta : Cond.static Lib.Math.min.name ∈ tbG := tbG_mem (i := 636) (by decide +kernel) rfl
theorem mmin_cod : Cond.code Lib.Math.min.name Lib.Math.min.code 2 (some .int) ∈ tbG := tbG_mem (i := 637) (by decide +kernel) rfl
theorem mmaxJ_sta : Cond.static Lib.MathLoose.max_long.x ∈ tbG := tbG_mem (i := 881) (by decide +kernel) rfl
theorem mmaxJ_cod : Cond.code Lib.MathLoose.max_long.x Lib.MathLoose.max_long.code 4 (some .long) ∈ tbG := tbG_mem (i := 882) (by decide +kernel) rfl
theorem mminJ_sta : Cond.static Lib.MathLoose.min_long.x ∈ tbG := tbG_mem (i := 878) (by decide +kernel) rfl
theorem mminJ_cod : Cond.code Lib.MathLoose.min_long.x Lib.MathLoose.min_long.code 4 (some .long) ∈ tbG := tbG_mem (i := 879) (by decide +kernel) rfl
theorem mm_ini : Cond.initialized "java/lang/Math" ∈ tbG := tbG_mem (i := 131) (by decide +kernel) rfl
/-- what the words behind an instruction must be, by their places in the table -/
noncomputable def lkB (own nm : String) (e : Ea) : Bool := match e.2.1, e.2.2.2.2.1 with
  | .getfield idx, ci :: k :: t :: pl :: _ => (match vwCl[ci]? with
    | some q => decide (k < q.2.2) && decide (lw_tbl[pl]? = some (.fieldLink own idx (q.2.1 k).1 (q.2.1 k).2.1 (q.2.1 k).2.2.1)) && decide (nthO (fts.getD ci []) k = some t)
    | none => decide (ci = 100) && decide (lw_tbl[pl]? = some (if k = 0 then .fieldLink own idx "java/lang/String" "value" "[B" else .fieldLink own idx "java/lang/String" "coder" "B")))
  | .putfield idx, [ci, k, t, pl, fin] => (match vwCl[ci]? with
    | some q => decide (k < q.2.2) && decide (lw_tbl[pl]? = some (.fieldLink own idx (q.2.1 k).1 (q.2.1 k).2.1 (q.2.1 k).2.2.1)) && decide (nthO (fts.getD ci []) k = some t) && (if fin = 0 then decide ((q.2.1 k).2.2.2 = false) else decide ((q.2.1 k).2.2.2 = true ∧ own = q.1 ∧ nm = "<init>"))
    | none => false)
  | .getstatic idx, x :: pl :: _ => if x = 1010 then decide (lw_tbl[pl]? = some (.fieldLink own idx "java/lang/String" "COMPACT_STRINGS" "Z")) else if x = 1009 then decide (lw_tbl[pl]? = some (.fieldLink own idx "jdk/internal/util/Preconditions" "SIOOBE_FORMATTER" "Ljava/util/function/BiFunction;")) else decide (1000 < x ∧ x < 1005 ∧ lw_tbl[pl]? = some (.fieldLinkNest own idx "RumourRent" (stN.getD (x - 1001) "") "[I" "RumourRent"))
  | .ldc idx, 0 :: pl :: _ => decide (lw_tbl[pl]? = some (.constant own idx (Int32.ofInt e.2.2.2.2.2)))
  | .ldc idx, 1 :: x :: _ => decide (own = "RumourRent$Reader" ∧ (x = 1005 ∨ x = 1006) ∧ idx = skI.getD (x - 1005) 0)
  | .ldc_w idx, 0 :: pl :: _ => decide (lw_tbl[pl]? = some (.constant own idx (Int32.ofInt e.2.2.2.2.2)))
  | .ldc2_w idx, 0 :: pl :: _ => decide (lw_tbl[pl]? = some (.constantLong own idx (Int64.ofInt e.2.2.2.2.2)))
  | .new idx, ci :: pl :: _ => (match vwCl[ci]? with
    | some q => decide (lw_tbl[pl]? = some (.classLink own idx q.1))
    | none => false)
  | .anewarray idx, pl :: _ => decide (lw_tbl[pl]? = some (.classLink own idx "RumourRent$Text"))
  | .invokestatic idx, pr :: pl :: _ => decide (lw_tbl[pl]? = some (.methodLink own idx (prN pr)))
  | .invokespecial idx, pr :: pl :: _ => decide (pr = 1 ∧ lw_tbl[pl]? = some (.methodLink own idx objectInit))
  | .iaload, _ | .iastore, _ | .laload, _ | .lastore, _ | .baload, _ | .bastore, _ | .aaload, _ | .aastore, _ | .arraylength, _ | .newarray _, _ => true
  | op, _ => flatI op
section Inv2
variable {i : Nat} {ls : Lo} {st : List Value} {s : Mm} {o : Nat × Lo × List Value × Mm}
theorem inv_gF {ops : List Nat} (h : gF i ls st s ops = some o) : ∃ (c : Nat) (r : List Value) (ci k t : Nat) (rest : List Nat), st = .ref c :: r ∧ ops = ci :: k :: t :: rest ∧ ((c < 1000 ∧ kdM s c = some (0, ci) ∧ o = (i + 1, ls, fldA s c k t :: r, s)) ∨ (¬ c < 1000 ∧ ci = 100 ∧ ∃ v, roF c k = some v ∧ o = (i + 1, ls, v :: r, s))) := by
  unfold gF at h
  split at h
  · refine ⟨_, _, _, _, _, _, rfl, rfl, ?_⟩
    split at h
    · rename_i hc
      split at h
      · rename_i hk
        exact Or.inl ⟨hc, hk, (Option.some.inj h).symm⟩
      · cases h
    · rename_i hc
      refine Or.inr ⟨hc, ?_⟩
      split at h
      · rename_i h1
        refine ⟨h1, ?_⟩
        split at h
        · exact ⟨_, by assumption, (Option.some.inj h).symm⟩
        · cases h
      · cases h
  · cases h
/-- what is put, and the state behind it -/
def putA (s : Mm) (c k t : Nat) (v : Value) (s' : Mm) : Prop := (t = 0 ∧ ∃ x, v = .int x ∧ s' = upI s c k x) ∨ (t = 3 ∧ ∃ x, v = .int x ∧ (x = 0 ∨ x = 1) ∧ s' = upI s c k x) ∨ (t = 1 ∧ ∃ x, v = .long x ∧ s' = upJ s c k x) ∨ (t = 2 ∧ ∃ a, v = .ref a ∧ a < s.1.length ∧ s' = upR s c k (some a))
theorem inv_pF {ops : List Nat} (h : pF i ls st s ops = some o) : ∃ (v : Value) (c : Nat) (r : List Value) (ci k t p q : Nat) (s' : Mm), st = v :: .ref c :: r ∧ ops = [ci, k, t, p, q] ∧ c < 1000 ∧ kdM s c = some (0, ci) ∧ putA s c k t v s' ∧ o = (i + 1, ls, r, s') := by
  unfold pF at h
  split at h
  · split at h
    · rename_i hc
      split at h
      · exact ⟨_, _, _, _, _, _, _, _, _, rfl, rfl, hc.1, hc.2, Or.inl ⟨rfl, _, rfl, rfl⟩, (Option.some.inj h).symm⟩
      · split at h
        · exact ⟨_, _, _, _, _, _, _, _, _, rfl, rfl, hc.1, hc.2, Or.inr (Or.inl ⟨rfl, _, rfl, by assumption, rfl⟩), (Option.some.inj h).symm⟩
        · cases h
      · exact ⟨_, _, _, _, _, _, _, _, _, rfl, rfl, hc.1, hc.2, Or.inr (Or.inr (Or.inl ⟨rfl, _, rfl, rfl⟩)), (Option.some.inj h).symm⟩
      · split at h
        · exact ⟨_, _, _, _, _, _, _, _, _, rfl, rfl, hc.1, hc.2, Or.inr (Or.inr (Or.inr ⟨rfl, _, rfl, by assumption, rfl⟩)), (Option.some.inj h).symm⟩
        · cases h
      · cases h
    · cases h
  · cases h
theorem inv_alI {sc : Sc} (h : alI i ls st s sc = some o) : ∃ (j : Int32) (c : Nat) (r : List Value) (n : Nat) (f : Nat → Int32), st = .int j :: .ref c :: r ∧ arI sc s c = some (n, f) ∧ vp_in j n ∧ o = (i + 1, ls, .int (f j.toNatClampNeg) :: r, s) := by
  unfold alI at h
  split at h
  · split at h
    · split at h
      · cases h
      · exact ⟨_, _, _, _, _, rfl, by assumption, by assumption, (Option.some.inj h).symm⟩
    · cases h
  · cases h
theorem arI_in {sc : Sc} {c n : Nat} {f : Nat → Int32} (h : arI sc s c = some (n, f)) : (c < 1000 ∧ kdM s c = some (1, n) ∧ f = s.2.1 c) ∨ (¬ c < 1000 ∧ roA sc c = some (n, f)) := by
  unfold arI at h
  split at h
  · rename_i hc
    split at h
    · rename_i hk
      cases h
      exact Or.inl ⟨hc, hk, rfl⟩
    · cases h
  · exact Or.inr ⟨by assumption, h⟩
theorem inv_asI (h : asI i ls st s = some o) : ∃ (x j : Int32) (c : Nat) (r : List Value) (n : Nat), st = .int x :: .int j :: .ref c :: r ∧ c < 1000 ∧ kdM s c = some (1, n) ∧ vp_in j n ∧ o = (i + 1, ls, r, upI s c j.toNatClampNeg x) := by
  unfold asI at h
  split at h
  · split at h
    · split at h
      · split at h
        · cases h
        · exact ⟨_, _, _, _, _, rfl, by assumption, by assumption, by assumption, (Option.some.inj h).symm⟩
      · cases h
    · cases h
  · cases h
theorem inv_alJ (h : alJ i ls st s = some o) : ∃ (j : Int32) (c : Nat) (r : List Value) (n : Nat), st = .int j :: .ref c :: r ∧ c < 1000 ∧ kdM s c = some (2, n) ∧ vp_in j n ∧ o = (i + 1, ls, .long (s.2.2.1 c j.toNatClampNeg) :: r, s) := by
  unfold alJ at h
  split at h
  · split at h
    · split at h
      · split at h
        · cases h
        · exact ⟨_, _, _, _, rfl, by assumption, by assumption, by assumption, (Option.some.inj h).symm⟩
      · cases h
    · cases h
  · cases h
theorem inv_asJ (h : asJ i ls st s = some o) : ∃ (x : Int64) (j : Int32) (c : Nat) (r : List Value) (n : Nat), st = .long x :: .int j :: .ref c :: r ∧ c < 1000 ∧ kdM s c = some (2, n) ∧ vp_in j n ∧ o = (i + 1, ls, r, upJ s c j.toNatClampNeg x) := by
  unfold asJ at h
  split at h
  · split at h
    · split at h
      · split at h
        · cases h
        · exact ⟨_, _, _, _, _, rfl, by assumption, by assumption, by assumption, (Option.some.inj h).symm⟩
      · cases h
    · cases h
  · cases h
theorem inv_alB (h : alB i ls st s = some o) : ∃ (j : Int32) (c : Nat) (r : List Value), st = .int j :: .ref c :: r ∧ ((c < 1000 ∧ ∃ n, kdM s c = some (3, n) ∧ vp_in j n ∧ o = (i + 1, ls, .int (s.2.1 c j.toNatClampNeg) :: r, s)) ∨ (¬ c < 1000 ∧ ∃ n f, roB c = some (n, f) ∧ vp_in j n ∧ o = (i + 1, ls, .int (f j.toNatClampNeg) :: r, s))) := by
  unfold alB at h
  split at h
  · refine ⟨_, _, _, rfl, ?_⟩
    split at h
    · split at h
      · split at h
        · cases h
        · exact Or.inl ⟨by assumption, _, by assumption, by assumption, (Option.some.inj h).symm⟩
      · cases h
    · rename_i hc
      cases hr : roB _ with
      | none => rw [hr] at h; cases h
      | some q =>
        rw [hr] at h
        dsimp only at h
        split at h
        · cases h
        · rename_i hq
          exact Or.inr ⟨hc, q.1, q.2, rfl, hq, (Option.some.inj h).symm⟩
  · cases h
theorem inv_asB (h : asB i ls st s = some o) : ∃ (x j : Int32) (c : Nat) (r : List Value) (n : Nat), st = .int x :: .int j :: .ref c :: r ∧ c < 1000 ∧ (x = 0 ∨ x = 1) ∧ kdM s c = some (3, n) ∧ vp_in j n ∧ o = (i + 1, ls, r, upI s c j.toNatClampNeg x) := by
  unfold asB at h
  split at h
  · split at h
    · rename_i hc
      split at h
      · split at h
        · cases h
        · exact ⟨_, _, _, _, _, rfl, hc.1, hc.2, by assumption, by assumption, (Option.some.inj h).symm⟩
      · cases h
    · cases h
  · cases h
theorem inv_alA (h : alA i ls st s = some o) : ∃ (j : Int32) (c : Nat) (r : List Value) (n : Nat), st = .int j :: .ref c :: r ∧ c < 1000 ∧ kdM s c = some (4, n) ∧ vp_in j n ∧ o = (i + 1, ls, valR (s.2.2.2 c j.toNatClampNeg) :: r, s) := by
  unfold alA at h
  split at h
  · split at h
    · split at h
      · split at h
        · cases h
        · exact ⟨_, _, _, _, rfl, by assumption, by assumption, by assumption, (Option.some.inj h).symm⟩
      · cases h
    · cases h
  · cases h
theorem inv_asA (h : asA i ls st s = some o) : ∃ (a : Nat) (j : Int32) (c : Nat) (r : List Value) (n : Nat), st = .ref a :: .int j :: .ref c :: r ∧ c < 1000 ∧ a < 1000 ∧ kdM s a = some (0, 8) ∧ kdM s c = some (4, n) ∧ vp_in j n ∧ o = (i + 1, ls, r, upR s c j.toNatClampNeg (some a)) := by
  unfold asA at h
  split at h
  · split at h
    · rename_i hc
      split at h
      · split at h
        · cases h
        · exact ⟨_, _, _, _, _, rfl, hc.1, hc.2.1, hc.2.2, by assumption, by assumption, (Option.some.inj h).symm⟩
      · cases h
    · cases h
  · cases h
theorem inv_alN {sc : Sc} (h : alN i ls st s sc = some o) : ∃ (c : Nat) (r : List Value), st = .ref c :: r ∧ ((c < 1000 ∧ ∃ n, kdM s c = some (1, n) ∧ o = (i + 1, ls, .int (Int32.ofNat n) :: r, s)) ∨ (c = 1000 ∧ o = (i + 1, ls, .int (Int32.ofNat sc.1) :: r, s)) ∨ (¬ c < 1000 ∧ ∃ n f, roB c = some (n, f) ∧ o = (i + 1, ls, .int (Int32.ofNat n) :: r, s))) := by
  unfold alN at h
  split at h
  · refine ⟨_, _, rfl, ?_⟩
    split at h
    · split at h
      · exact Or.inl ⟨by assumption, _, by assumption, (Option.some.inj h).symm⟩
      · cases h
    · split at h
      · exact Or.inr (Or.inl ⟨by assumption, (Option.some.inj h).symm⟩)
      · rename_i hc hc2
        cases hr : roB _ with
        | none => rw [hr] at h; cases h
        | some q =>
          rw [hr] at h
          exact Or.inr (Or.inr ⟨hc, q.1, q.2, rfl, (Option.some.inj h).symm⟩)
  · cases h
theorem inv_nwA {t : Nat} (h : nwA i ls st s t = some o) : ∃ n r, st = .int n :: r ∧ ¬ n < 0 ∧ n.toNatClampNeg ≤ 5000 ∧ s.1.length ≤ 900 ∧ o = (i + 1, ls, .ref s.1.length :: r, newM s (t, n.toNatClampNeg)) := by
  unfold nwA at h
  split at h
  · split at h
    · cases h
    · rename_i hc
      exact ⟨_, _, rfl, fun q => hc (Or.inl q), Nat.not_lt.mp fun q => hc (Or.inr (Or.inl q)), Nat.not_lt.mp fun q => hc (Or.inr (Or.inr q)), (Option.some.inj h).symm⟩
  · cases h
theorem inv_nwO {ops : List Nat} (h : nwO i ls st s ops = some o) : ∃ ci r, ops = ci :: r ∧ s.1.length ≤ 900 ∧ o = (i + 1, ls, .ref s.1.length :: st, newM s (0, ci)) := by
  unfold nwO at h
  split at h
  · split at h
    · cases h
    · exact ⟨_, _, rfl, by omega, (Option.some.inj h).symm⟩
  · cases h
theorem inv_cpA (h : cpA i ls st s = some o) : ∃ (n dp : Int32) (c1 : Nat) (sp : Int32) (c0 : Nat) (r : List Value) (n0 n1 : Nat), st = .int n :: .int dp :: .ref c1 :: .int sp :: .ref c0 :: r ∧ c0 < 1000 ∧ c1 < 1000 ∧ (r.map fun v => v.category).sum ≤ 8 ∧ kdM s c0 = some (1, n0) ∧ kdM s c1 = some (1, n1) ∧ ¬ sp < 0 ∧ ¬ dp < 0 ∧ ¬ n < 0 ∧ sp.toNatClampNeg + n.toNatClampNeg ≤ n0 ∧ dp.toNatClampNeg + n.toNatClampNeg ≤ n1 ∧ o = (i + 1, ls, r, upC s c0 c1 sp.toNatClampNeg dp.toNatClampNeg n.toNatClampNeg) := by
  unfold cpA at h
  split at h
  · split at h
    · rename_i hc
      split at h
      · split at h
        · cases h
        · rename_i hq
          exact ⟨_, _, _, _, _, _, _, _, rfl, hc.1, hc.2.1, hc.2.2, by assumption, by assumption, fun q => hq (Or.inl q), fun q => hq (Or.inr (Or.inl q)), fun q => hq (Or.inr (Or.inr (Or.inl q))), Nat.not_lt.mp fun q => hq (Or.inr (Or.inr (Or.inr (Or.inl q)))), Nat.not_lt.mp fun q => hq (Or.inr (Or.inr (Or.inr (Or.inr q)))), (Option.some.inj h).symm⟩
      · cases h
    · cases h
  · cases h
theorem inv_mxI {f : Int32 → Int32 → Int32} (h : mxI i ls st s f = some o) : ∃ x y r, st = .int y :: .int x :: r ∧ (r.map fun v => v.category).sum ≤ 8 ∧ o = (i + 1, ls, .int (f x y) :: r, s) := by
  unfold mxI at h
  split at h
  · split at h
    · exact ⟨_, _, _, rfl, by assumption, (Option.some.inj h).symm⟩
    · cases h
  · cases h
theorem inv_mxJ {f : Int64 → Int64 → Int64} (h : mxJ i ls st s f = some o) : ∃ x y r, st = .long y :: .long x :: r ∧ (r.map fun v => v.category).sum ≤ 8 ∧ o = (i + 1, ls, .long (f x y) :: r, s) := by
  unfold mxJ at h
  split at h
  · split at h
    · exact ⟨_, _, _, rfl, by assumption, (Option.some.inj h).symm⟩
    · cases h
  · cases h
theorem inv_pmS {ops : List Nat} (h : pmS i ls st s ops = some o) : ∃ pr rest, ops = pr :: rest ∧ ((pr = 2 ∧ cpA i ls st s = some o) ∨ (pr = 5 ∧ mxI i ls st s (fun x y => if x < y then y else x) = some o) ∨ (pr = 6 ∧ mxI i ls st s (fun x y => if y < x then y else x) = some o) ∨ (pr = 7 ∧ mxJ i ls st s (fun x y => if y < x then x else y) = some o) ∨ (pr = 8 ∧ mxJ i ls st s (fun x y => if y < x then y else x) = some o)) := by
  unfold pmS at h
  split at h
  · exact ⟨_, _, rfl, Or.inl ⟨rfl, h⟩⟩
  · exact ⟨_, _, rfl, Or.inr (Or.inl ⟨rfl, h⟩)⟩
  · exact ⟨_, _, rfl, Or.inr (Or.inr (Or.inl ⟨rfl, h⟩))⟩
  · exact ⟨_, _, rfl, Or.inr (Or.inr (Or.inr (Or.inl ⟨rfl, h⟩)))⟩
  · exact ⟨_, _, rfl, Or.inr (Or.inr (Or.inr (Or.inr ⟨rfl, h⟩)))⟩
  · cases h
theorem inv_obI (h : obI i ls st s = some o) : ∃ a r, st = .ref a :: r ∧ (r.map fun v => v.category).sum ≤ 8 ∧ o = (i + 1, ls, r, s) := by
  unfold obI at h
  split at h
  · split at h
    · exact ⟨_, _, rfl, by assumption, (Option.some.inj h).symm⟩
    · cases h
  · cases h
end Inv2
