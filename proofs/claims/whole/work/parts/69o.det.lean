/-! forms that change their sign: determinants of seven rows -/
def sI (f : Nat → Int) : Nat → Int
  | 0 => 0
  | n + 1 => sI f n + f n
theorem sI_c {f g : Nat → Int} : ∀ n, (∀ i, i < n → f i = g i) → sI f n = sI g n
  | 0, _ => rfl
  | n + 1, h => by rw [sI, sI, sI_c n (fun i hi => h i (by omega)), h n (by omega)]
theorem sI_0 : ∀ n, sI (fun _ => 0) n = 0
  | 0 => rfl
  | n + 1 => by rw [sI, sI_0 n]; rfl
theorem sI_lin {f g : Nat → Int} {a b : Int} : ∀ n, sI (fun i => a * f i + b * g i) n = a * sI f n + b * sI g n
  | 0 => by simp only [sI]; omega
  | n + 1 => by
    rw [sI, sI, sI, sI_lin n]
    grind
theorem sI_mul {f : Nat → Int} {a : Int} : ∀ n, sI (fun i => a * f i) n = a * sI f n
  | 0 => by simp only [sI]; omega
  | n + 1 => by
    rw [sI, sI, sI_mul n]
    grind
theorem sI_add {f g : Nat → Int} : ∀ n, sI (fun i => f i + g i) n = sI f n + sI g n
  | 0 => rfl
  | n + 1 => by
    rw [sI, sI, sI, sI_add n]
    omega
theorem sI_swap {F : Nat → Nat → Int} {m : Nat} : ∀ n, sI (fun i => sI (fun j => F i j) m) n = sI (fun j => sI (fun i => F i j) n) m
  | 0 => (sI_0 m).symm
  | n + 1 => by
    rw [sI, sI_swap n]
    exact (sI_add m).symm
theorem sI_one {x : Int} {j : Nat} : ∀ n, sI (fun i => if i = j then x else 0) n = if j < n then x else 0
  | 0 => rfl
  | n + 1 => by
    rw [sI, sI_one n]
    by_cases c : j < n
    · rw [if_pos c, if_neg (by omega), if_pos (by omega)]
      omega
    · by_cases c2 : n = j
      · rw [if_neg c, if_pos c2, if_pos (by omega)]
        omega
      · rw [if_neg c, if_neg c2, if_neg (by omega)]
        rfl
def sg (S c : Nat) : Int := if S < 128 ∧ S / 2 ^ c % 2 = 1 then (if pcN (S % 2 ^ c) % 2 = 0 then 1 else -1) else 0
theorem sg_big {S c : Nat} (h : ¬ S < 128) : sg S c = 0 := if_neg (fun e => h e.1)
theorem sg_anti : ∀ S, S < 128 → ∀ c, c < 7 → ∀ d, d < 7 → sg S c * sg (S ^^^ 2 ^ c) d = -(sg S d * sg (S ^^^ 2 ^ d) c) := by decide +kernel
def Wd (v w : Nat → Int) (S : Nat) : Int := sI (fun c => sg S c * v c * w (S ^^^ 2 ^ c)) 7
theorem Wd_big {v w : Nat → Int} {S : Nat} (h : ¬ S < 128) : Wd v w S = 0 := by
  unfold Wd
  refine (sI_c (g := fun _ => 0) 7 (fun c _ => ?_)).trans (sI_0 7)
  rw [sg_big h, Int.zero_mul, Int.zero_mul]
theorem xo_c (S a b : Nat) : S ^^^ a ^^^ b = S ^^^ b ^^^ a := by
  rw [Nat.xor_assoc, Nat.xor_comm a b, ← Nat.xor_assoc]
theorem Wd_anti {u v w : Nat → Int} : Wd u (Wd v w) = fun S => -Wd v (Wd u w) S := by
  funext S
  by_cases h : S < 128
  · have e1 : Wd u (Wd v w) S = sI (fun c => sI (fun d => sg S c * u c * (sg (S ^^^ 2 ^ c) d * v d * w (S ^^^ 2 ^ c ^^^ 2 ^ d))) 7) 7 := sI_c 7 (fun c _ => (sI_mul 7).symm)
    have e2 : Wd v (Wd u w) S = sI (fun c => sI (fun d => sg S c * v c * (sg (S ^^^ 2 ^ c) d * u d * w (S ^^^ 2 ^ c ^^^ 2 ^ d))) 7) 7 := sI_c 7 (fun c _ => (sI_mul 7).symm)
    rw [e1, e2, sI_swap (F := fun c d => sg S c * v c * (sg (S ^^^ 2 ^ c) d * u d * w (S ^^^ 2 ^ c ^^^ 2 ^ d)))]
    have e3 : ∀ x : Int, -x = (-1) * x := fun x => by omega
    rw [e3, ← sI_mul]
    refine sI_c 7 (fun c hc => ?_)
    rw [← sI_mul]
    refine sI_c 7 (fun d hd => ?_)
    have ha := sg_anti S h c hc d hd
    rw [xo_c S (2 ^ d) (2 ^ c)]
    have f1 : sg S c * u c * (sg (S ^^^ 2 ^ c) d * v d * w (S ^^^ 2 ^ c ^^^ 2 ^ d)) = (sg S c * sg (S ^^^ 2 ^ c) d) * (u c * v d * w (S ^^^ 2 ^ c ^^^ 2 ^ d)) := by grind
    rw [f1, ha]
    grind
  · rw [Wd_big h, Wd_big h]
    rfl
theorem Wd_lin {u v w : Nat → Int} {a b : Int} {S : Nat} : Wd (fun c => a * u c + b * v c) w S = a * Wd u w S + b * Wd v w S := by
  unfold Wd
  rw [← sI_lin]
  exact sI_c 7 (fun c _ => by grind)
theorem Wd_linw {v w w' : Nat → Int} {a b : Int} : Wd v (fun S => a * w S + b * w' S) = fun S => a * Wd v w S + b * Wd v w' S := by
  funext S
  unfold Wd
  rw [← sI_lin]
  exact sI_c 7 (fun c _ => by grind)
theorem Wd_0 {v : Nat → Int} : Wd v (fun _ => 0) = fun _ => 0 := by
  funext S
  refine (sI_c (g := fun _ => 0) 7 (fun c _ => ?_)).trans (sI_0 7)
  exact Int.mul_zero _
theorem Wd_self {v w : Nat → Int} : Wd v (Wd v w) = fun _ => 0 := by
  funext S
  have h := congrFun (Wd_anti (u := v) (v := v) (w := w)) S
  have h2 : Wd v (Wd v w) S = -Wd v (Wd v w) S := h
  omega
def pf (r : Nat → Nat → Int) : Nat → (Nat → Int) → Nat → Int
  | 0, w => w
  | k + 1, w => pf r k (Wd (r k) w)
theorem pf_lin {r : Nat → Nat → Int} {a b : Int} : ∀ (k : Nat) (w w' : Nat → Int), pf r k (fun S => a * w S + b * w' S) = fun S => a * pf r k w S + b * pf r k w' S
  | 0, _, _ => rfl
  | k + 1, w, w' => by
    rw [pf, Wd_linw, pf_lin k]
    rfl
theorem pf_0 {r : Nat → Nat → Int} : ∀ k, pf r k (fun _ => 0) = fun _ => 0
  | 0 => rfl
  | k + 1 => by rw [pf, Wd_0, pf_0 k]
theorem pf_neg {r : Nat → Nat → Int} {k : Nat} {w : Nat → Int} : pf r k (fun S => -w S) = fun S => -pf r k w S := by
  have h := pf_lin (r := r) (a := -1) (b := 0) k w w
  have e : (fun S => -1 * w S + 0 * w S) = fun S => -w S := funext fun S => by omega
  rw [e] at h
  rw [h]
  funext S
  omega
theorem pf_swap {r : Nat → Nat → Int} {k : Nat} {u v w : Nat → Int} : pf r k (Wd u (Wd v w)) = fun S => -pf r k (Wd v (Wd u w)) S := by
  rw [Wd_anti, pf_neg]
theorem pf_dup {r : Nat → Nat → Int} {p : Nat} : ∀ (k : Nat) (w : Nat → Int), p < k → pf r k (Wd (r p) w) = fun _ => 0
  | 0, _, h => by omega
  | k + 1, w, h => by
    by_cases c : p = k
    · rw [c, pf, Wd_self, pf_0]
    · rw [pf, pf_swap, pf_dup k _ (by omega)]
      rfl
/-- two rows that are the same behind the first k -/
def eqv (r : Nat → Nat → Int) (k : Nat) (u v : Nat → Int) : Prop := ∀ w, pf r k (Wd u w) = pf r k (Wd v w)
theorem eqv_s {r : Nat → Nat → Int} {k : Nat} {u v : Nat → Int} (h : eqv r k u v) : eqv r (k + 1) u v := fun w => by
  rw [pf, pf, pf_swap, h, ← pf_swap]
theorem eqv_lin {r : Nat → Nat → Int} {k : Nat} {u v u' v' : Nat → Int} {a b : Int} (h : eqv r k u v) (h' : eqv r k u' v') : eqv r k (fun c => a * u c + b * u' c) (fun c => a * v c + b * v' c) := fun w => by
  have e1 : Wd (fun c => a * u c + b * u' c) w = fun S => a * Wd u w S + b * Wd u' w S := funext fun S => Wd_lin
  have e2 : Wd (fun c => a * v c + b * v' c) w = fun S => a * Wd v w S + b * Wd v' w S := funext fun S => Wd_lin
  rw [e1, e2, pf_lin, pf_lin, h, h']
theorem eqv_t {r : Nat → Nat → Int} {k : Nat} {u v x : Nat → Int} (h : eqv r k u v) (h' : eqv r k v x) : eqv r k u x := fun w => (h w).trans (h' w)
theorem eqv_z {r : Nat → Nat → Int} {k p : Nat} (h : p < k) : eqv r k (r p) (fun _ => 0) := fun w => by
  rw [pf_dup k w h]
  have e : Wd (fun _ => (0 : Int)) w = fun _ => 0 := by
    funext S
    refine (sI_c (g := fun _ => 0) 7 (fun c _ => ?_)).trans (sI_0 7)
    rw [Int.mul_zero, Int.zero_mul]
  rw [e, pf_0]
def dlt (T S : Nat) : Int := if S = T then 1 else 0
theorem dl_b : ∀ k, k < 7 → ∀ j, j < 7 → ∀ S, S < 128 → (List.range 7).all (fun c => decide (¬ (k ≤ j ∧ k ≤ c ∧ c ≠ j)) || (decide (sg S c = 0) || decide (¬ S ^^^ 2 ^ c = 128 - 2 ^ k - 2 ^ j))) = true := by decide +kernel
theorem dl_1 {k j S c : Nat} (hk : k < 7) (hj : j < 7) (hS : S < 128) (hc : c < 7) (h : k ≤ j ∧ k ≤ c ∧ c ≠ j) : sg S c = 0 ∨ ¬ S ^^^ 2 ^ c = 128 - 2 ^ k - 2 ^ j := by
  have e := List.all_eq_true.mp (dl_b k hk j hj S hS) c (List.mem_range.mpr hc)
  rw [Bool.or_eq_true, Bool.or_eq_true, decide_eq_true_eq, decide_eq_true_eq, decide_eq_true_eq] at e
  rcases e with e | e
  · exact absurd h e
  · exact e
theorem dl_2 : ∀ k, k < 7 → ∀ j, j < 7 → k ≤ j → ∀ S, S < 128 → (S ^^^ 2 ^ j = 128 - 2 ^ k - 2 ^ j ↔ S = 128 - 2 ^ k) := by decide +kernel
theorem sg_pm : ∀ k, k < 7 → ∀ j, j < 7 → k ≤ j → sg (128 - 2 ^ k) j = 1 ∨ sg (128 - 2 ^ k) j = -1 := by decide +kernel
theorem sg_kk : ∀ k, k < 7 → sg (128 - 2 ^ k) k = 1 := by decide +kernel
theorem Wd_dlt {u : Nat → Int} {k j : Nat} (hk : k ≤ j) (hj : j < 7) (z : ∀ c, c < k → u c = 0) : Wd u (dlt (128 - 2 ^ k - 2 ^ j)) = fun S => sg (128 - 2 ^ k) j * u j * dlt (128 - 2 ^ k) S + 0 * dlt (128 - 2 ^ k) S := by
  funext S
  have p1 : 0 < 2 ^ k := Nat.two_pow_pos k
  by_cases h : S < 128
  · have e : Wd u (dlt (128 - 2 ^ k - 2 ^ j)) S = sI (fun c => if c = j then sg (128 - 2 ^ k) j * u j * dlt (128 - 2 ^ k) S else 0) 7 := sI_c 7 (fun c hc => by
      by_cases e : c = j
      · rw [if_pos e, e]
        unfold dlt
        have d2 := dl_2 k (by omega) j hj hk S h
        by_cases c2 : S = 128 - 2 ^ k
        · rw [if_pos c2, if_pos (d2.mpr c2), c2]
        · rw [if_neg c2, if_neg (fun h => c2 (d2.mp h)), Int.mul_zero, Int.mul_zero]
      · rw [if_neg e]
        by_cases ck : c < k
        · rw [z c ck, Int.mul_zero, Int.zero_mul]
        · rcases dl_1 (by omega : k < 7) hj h hc ⟨hk, by omega, e⟩ with h1 | h1
          · rw [h1, Int.zero_mul, Int.zero_mul]
          · unfold dlt
            rw [if_neg h1, Int.mul_zero])
    rw [e, sI_one, if_pos hj, Int.zero_mul, Int.add_zero]
  · rw [Wd_big h]
    unfold dlt
    rw [if_neg (by omega), Int.mul_zero, Int.mul_zero]
    rfl
/-- the minor of the first k rows and columns -/
def dk (r : Nat → Nat → Int) (k : Nat) : Int := pf r k (dlt (128 - 2 ^ k)) 127
theorem pf_dlt {r : Nat → Nat → Int} {u : Nat → Int} {k j : Nat} (hk : k ≤ j) (hj : j < 7) (z : ∀ c, c < k → u c = 0) : pf r k (Wd u (dlt (128 - 2 ^ k - 2 ^ j))) 127 = sg (128 - 2 ^ k) j * u j * dk r k := by
  rw [Wd_dlt hk hj z, pf_lin]
  show _ * dk r k + 0 * dk r k = _
  rw [Int.zero_mul, Int.add_zero]
theorem mk_s : ∀ k, k < 7 → 128 - 2 ^ k - 2 ^ k = 128 - 2 ^ (k + 1) := by decide
