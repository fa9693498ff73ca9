-- the law is long: its rows in pieces
set_option maxRecDepth 100000 in
theorem ckl_0 : ckA mt_319 pg_319 0 ((pg_319.drop 0).take 60) = true := by decide +kernel
set_option maxRecDepth 100000 in
theorem ckl_1 : ckA mt_319 pg_319 60 ((pg_319.drop 60).take 60) = true := by decide +kernel
set_option maxRecDepth 100000 in
theorem ckl_2 : ckA mt_319 pg_319 120 ((pg_319.drop 120).take 60) = true := by decide +kernel
set_option maxRecDepth 100000 in
theorem ckl_3 : ckA mt_319 pg_319 180 ((pg_319.drop 180).take 60) = true := by decide +kernel
set_option maxRecDepth 100000 in
theorem ckl_4 : ckA mt_319 pg_319 240 ((pg_319.drop 240).take 60) = true := by decide +kernel
set_option maxRecDepth 100000 in
theorem ckl_5 : ckA mt_319 pg_319 300 ((pg_319.drop 300).take 60) = true := by decide +kernel
set_option maxRecDepth 100000 in
theorem ckl_6 : ckA mt_319 pg_319 360 ((pg_319.drop 360).take 60) = true := by decide +kernel
set_option maxRecDepth 100000 in
theorem ckl_7 : ckA mt_319 pg_319 420 ((pg_319.drop 420).take 60) = true := by decide +kernel
set_option maxRecDepth 100000 in
theorem ckl_8 : ckA mt_319 pg_319 480 ((pg_319.drop 480).take 60) = true := by decide +kernel
set_option maxRecDepth 100000 in
theorem ckl_9 : ckA mt_319 pg_319 540 ((pg_319.drop 540).take 60) = true := by decide +kernel
set_option maxRecDepth 100000 in
theorem ckl_10 : ckA mt_319 pg_319 600 ((pg_319.drop 600).take 60) = true := by decide +kernel
set_option maxRecDepth 100000 in
theorem ckl_11 : ckA mt_319 pg_319 660 ((pg_319.drop 660).take 60) = true := by decide +kernel
set_option maxRecDepth 100000 in
theorem ckl_12 : ckA mt_319 pg_319 720 ((pg_319.drop 720).take 60) = true := by decide +kernel
set_option maxRecDepth 100000 in
theorem ckl_13 : ckA mt_319 pg_319 780 ((pg_319.drop 780).take 60) = true := by decide +kernel
set_option maxRecDepth 100000 in
theorem ckl_14 : ckA mt_319 pg_319 840 ((pg_319.drop 840).take 60) = true := by decide +kernel
set_option maxRecDepth 100000 in
theorem ckl_15 : ckA mt_319 pg_319 900 ((pg_319.drop 900).take 60) = true := by decide +kernel
set_option maxRecDepth 100000 in
theorem ckl_16 : ckA mt_319 pg_319 960 ((pg_319.drop 960).take 60) = true := by decide +kernel
set_option maxRecDepth 100000 in
theorem ckl_17 : ckA mt_319 pg_319 1020 ((pg_319.drop 1020).take 60) = true := by decide +kernel
set_option maxRecDepth 100000 in
theorem ckl_18 : ckA mt_319 pg_319 1080 ((pg_319.drop 1080).take 60) = true := by decide +kernel
theorem ckA_app (q : Mt) (l : List Ea) : ∀ (a : List Ea) (i n : Nat), ckA q l i (a.take n) = true → ckA q l (i + n) (a.drop n) = true → ckA q l i a = true
  | [], i, n, _, _ => rfl
  | e :: t, i, 0, _, h2 => h2
  | e :: t, i, n + 1, h1, h2 => by
    simp only [List.take_succ_cons, ckA, Bool.and_eq_true] at h1 ⊢
    refine ⟨h1.1, ckA_app q l t (i + 1) n h1.2 ?_⟩
    rw [show i + 1 + n = i + (n + 1) by omega]
    exact h2
theorem ckd_18 : ckA mt_319 pg_319 1080 (pg_319.drop 1080) = true := by
  refine ckA_app _ _ _ 1080 60 ckl_18 ?_
  rw [List.drop_drop]
  decide +kernel
theorem ckd_17 : ckA mt_319 pg_319 1020 (pg_319.drop 1020) = true := by
  refine ckA_app _ _ _ 1020 60 ckl_17 ?_
  rw [List.drop_drop]
  exact ckd_18
theorem ckd_16 : ckA mt_319 pg_319 960 (pg_319.drop 960) = true := by
  refine ckA_app _ _ _ 960 60 ckl_16 ?_
  rw [List.drop_drop]
  exact ckd_17
theorem ckd_15 : ckA mt_319 pg_319 900 (pg_319.drop 900) = true := by
  refine ckA_app _ _ _ 900 60 ckl_15 ?_
  rw [List.drop_drop]
  exact ckd_16
theorem ckd_14 : ckA mt_319 pg_319 840 (pg_319.drop 840) = true := by
  refine ckA_app _ _ _ 840 60 ckl_14 ?_
  rw [List.drop_drop]
  exact ckd_15
theorem ckd_13 : ckA mt_319 pg_319 780 (pg_319.drop 780) = true := by
  refine ckA_app _ _ _ 780 60 ckl_13 ?_
  rw [List.drop_drop]
  exact ckd_14
theorem ckd_12 : ckA mt_319 pg_319 720 (pg_319.drop 720) = true := by
  refine ckA_app _ _ _ 720 60 ckl_12 ?_
  rw [List.drop_drop]
  exact ckd_13
theorem ckd_11 : ckA mt_319 pg_319 660 (pg_319.drop 660) = true := by
  refine ckA_app _ _ _ 660 60 ckl_11 ?_
  rw [List.drop_drop]
  exact ckd_12
theorem ckd_10 : ckA mt_319 pg_319 600 (pg_319.drop 600) = true := by
  refine ckA_app _ _ _ 600 60 ckl_10 ?_
  rw [List.drop_drop]
  exact ckd_11
theorem ckd_9 : ckA mt_319 pg_319 540 (pg_319.drop 540) = true := by
  refine ckA_app _ _ _ 540 60 ckl_9 ?_
  rw [List.drop_drop]
  exact ckd_10
theorem ckd_8 : ckA mt_319 pg_319 480 (pg_319.drop 480) = true := by
  refine ckA_app _ _ _ 480 60 ckl_8 ?_
  rw [List.drop_drop]
  exact ckd_9
theorem ckd_7 : ckA mt_319 pg_319 420 (pg_319.drop 420) = true := by
  refine ckA_app _ _ _ 420 60 ckl_7 ?_
  rw [List.drop_drop]
  exact ckd_8
theorem ckd_6 : ckA mt_319 pg_319 360 (pg_319.drop 360) = true := by
  refine ckA_app _ _ _ 360 60 ckl_6 ?_
  rw [List.drop_drop]
  exact ckd_7
theorem ckd_5 : ckA mt_319 pg_319 300 (pg_319.drop 300) = true := by
  refine ckA_app _ _ _ 300 60 ckl_5 ?_
  rw [List.drop_drop]
  exact ckd_6
theorem ckd_4 : ckA mt_319 pg_319 240 (pg_319.drop 240) = true := by
  refine ckA_app _ _ _ 240 60 ckl_4 ?_
  rw [List.drop_drop]
  exact ckd_5
theorem ckd_3 : ckA mt_319 pg_319 180 (pg_319.drop 180) = true := by
  refine ckA_app _ _ _ 180 60 ckl_3 ?_
  rw [List.drop_drop]
  exact ckd_4
theorem ckd_2 : ckA mt_319 pg_319 120 (pg_319.drop 120) = true := by
  refine ckA_app _ _ _ 120 60 ckl_2 ?_
  rw [List.drop_drop]
  exact ckd_3
theorem ckd_1 : ckA mt_319 pg_319 60 (pg_319.drop 60) = true := by
  refine ckA_app _ _ _ 60 60 ckl_1 ?_
  rw [List.drop_drop]
  exact ckd_2
theorem ckd_0 : ckA mt_319 pg_319 0 (pg_319.drop 0) = true := by
  refine ckA_app _ _ _ 0 60 ckl_0 ?_
  rw [List.drop_drop]
  exact ckd_1
theorem ck_319 : ckA mt_319 pg_319 0 pg_319 = true := ckd_0
