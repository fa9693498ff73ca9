set_option maxRecDepth 100000 in
theorem ck_0 : ckA mt_0 pg_0 0 pg_0 = true := by decide +kernel
set_option maxRecDepth 100000 in
theorem ck_1 : ckA mt_1 pg_1 0 pg_1 = true := by decide +kernel
set_option maxRecDepth 100000 in
theorem ck_2 : ckA mt_2 pg_2 0 pg_2 = true := by decide +kernel
set_option maxRecDepth 100000 in
theorem ck_3 : ckA mt_3 pg_3 0 pg_3 = true := by decide +kernel
set_option maxRecDepth 100000 in
theorem ck_4 : ckA mt_4 pg_4 0 pg_4 = true := by decide +kernel
set_option maxRecDepth 100000 in
theorem ck_5 : ckA mt_5 pg_5 0 pg_5 = true := by decide +kernel
set_option maxRecDepth 100000 in
theorem ck_6 : ckA mt_6 pg_6 0 pg_6 = true := by decide +kernel
set_option maxRecDepth 100000 in
theorem ck_7 : ckA mt_7 pg_7 0 pg_7 = true := by decide +kernel
set_option maxRecDepth 100000 in
theorem ck_8 : ckA mt_8 pg_8 0 pg_8 = true := by decide +kernel
set_option maxRecDepth 100000 in
theorem ck_9 : ckA mt_9 pg_9 0 pg_9 = true := by decide +kernel
set_option maxRecDepth 100000 in
theorem ck_10 : ckA mt_10 pg_10 0 pg_10 = true := by decide +kernel
set_option maxRecDepth 100000 in
theorem ck_11 : ckA mt_11 pg_11 0 pg_11 = true := by decide +kernel
set_option maxRecDepth 100000 in
theorem ck_12 : ckA mt_12 pg_12 0 pg_12 = true := by decide +kernel
set_option maxRecDepth 100000 in
theorem ck_13 : ckA mt_13 pg_13 0 pg_13 = true := by decide +kernel
set_option maxRecDepth 100000 in
theorem ck_14 : ckA mt_14 pg_14 0 pg_14 = true := by decide +kernel
set_option maxRecDepth 100000 in
theorem ck_15 : ckA mt_15 pg_15 0 pg_15 = true := by decide +kernel
set_option maxRecDepth 100000 in
theorem ck_16 : ckA mt_16 pg_16 0 pg_16 = true := by decide +kernel
set_option maxRecDepth 100000 in
theorem ck_17 : ckA mt_17 pg_17 0 pg_17 = true := by decide +kernel
set_option maxRecDepth 100000 in
theorem ck_18 : ckA mt_18 pg_18 0 pg_18 = true := by decide +kernel
set_option maxRecDepth 100000 in
theorem ck_19 : ckA mt_19 pg_19 0 pg_19 = true := by decide +kernel
set_option maxRecDepth 100000 in
theorem ck_20 : ckA mt_20 pg_20 0 pg_20 = true := by decide +kernel
set_option maxRecDepth 100000 in
theorem ck_21 : ckA mt_21 pg_21 0 pg_21 = true := by decide +kernel
set_option maxRecDepth 100000 in
theorem ck_22 : ckA mt_22 pg_22 0 pg_22 = true := by decide +kernel
set_option maxRecDepth 100000 in
theorem ck_23 : ckA mt_23 pg_23 0 pg_23 = true := by decide +kernel
set_option maxRecDepth 100000 in
theorem ck_24 : ckA mt_24 pg_24 0 pg_24 = true := by decide +kernel
set_option maxRecDepth 100000 in
theorem ck_25 : ckA mt_25 pg_25 0 pg_25 = true := by decide +kernel
set_option maxRecDepth 100000 in
theorem ck_26 : ckA mt_26 pg_26 0 pg_26 = true := by decide +kernel
set_option maxRecDepth 100000 in
theorem ck_27 : ckA mt_27 pg_27 0 pg_27 = true := by decide +kernel
set_option maxRecDepth 100000 in
theorem ck_28 : ckA mt_28 pg_28 0 pg_28 = true := by decide +kernel
set_option maxRecDepth 100000 in
theorem ck_29 : ckA mt_29 pg_29 0 pg_29 = true := by decide +kernel
set_option maxRecDepth 100000 in
theorem ck_30 : ckA mt_30 pg_30 0 pg_30 = true := by decide +kernel
set_option maxRecDepth 100000 in
theorem ck_31 : ckA mt_31 pg_31 0 pg_31 = true := by decide +kernel
set_option maxRecDepth 100000 in
theorem ck_32 : ckA mt_32 pg_32 0 pg_32 = true := by decide +kernel
set_option maxRecDepth 100000 in
theorem ck_33 : ckA mt_33 pg_33 0 pg_33 = true := by decide +kernel
set_option maxRecDepth 100000 in
theorem ck_34 : ckA mt_34 pg_34 0 pg_34 = true := by decide +kernel
set_option maxRecDepth 100000 in
theorem ck_35 : ckA mt_35 pg_35 0 pg_35 = true := by decide +kernel
set_option maxRecDepth 100000 in
theorem ck_36 : ckA mt_36 pg_36 0 pg_36 = true := by decide +kernel
set_option maxRecDepth 100000 in
theorem ck_37 : ckA mt_37 pg_37 0 pg_37 = true := by decide +kernel
set_option maxRecDepth 100000 in
theorem ck_38 : ckA mt_38 pg_38 0 pg_38 = true := by decide +kernel
set_option maxRecDepth 100000 in
theorem ck_39 : ckA mt_39 pg_39 0 pg_39 = true := by decide +kernel
set_option maxRecDepth 100000 in
theorem ck_40 : ckA mt_40 pg_40 0 pg_40 = true := by decide +kernel
set_option maxRecDepth 100000 in
theorem ck_41 : ckA mt_41 pg_41 0 pg_41 = true := by decide +kernel
set_option maxRecDepth 100000 in
theorem ck_42 : ckA mt_42 pg_42 0 pg_42 = true := by decide +kernel
set_option maxRecDepth 100000 in
theorem ck_43 : ckA mt_43 pg_43 0 pg_43 = true := by decide +kernel
set_option maxRecDepth 100000 in
theorem ck_44 : ckA mt_44 pg_44 0 pg_44 = true := by decide +kernel
set_option maxRecDepth 100000 in
theorem ck_45 : ckA mt_45 pg_45 0 pg_45 = true := by decide +kernel
set_option maxRecDepth 100000 in
theorem ck_46 : ckA mt_46 pg_46 0 pg_46 = true := by decide +kernel
set_option maxRecDepth 100000 in
theorem ck_47 : ckA mt_47 pg_47 0 pg_47 = true := by decide +kernel
set_option maxRecDepth 100000 in
theorem ck_48 : ckA mt_48 pg_48 0 pg_48 = true := by decide +kernel
set_option maxRecDepth 100000 in
theorem ck_49 : ckA mt_49 pg_49 0 pg_49 = true := by decide +kernel
set_option maxRecDepth 100000 in
theorem ck_50 : ckA mt_50 pg_50 0 pg_50 = true := by decide +kernel
set_option maxRecDepth 100000 in
theorem ck_51 : ckA mt_51 pg_51 0 pg_51 = true := by decide +kernel
set_option maxRecDepth 100000 in
theorem ck_52 : ckA mt_52 pg_52 0 pg_52 = true := by decide +kernel
set_option maxRecDepth 100000 in
theorem ck_53 : ckA mt_53 pg_53 0 pg_53 = true := by decide +kernel
set_option maxRecDepth 100000 in
theorem ck_54 : ckA mt_54 pg_54 0 pg_54 = true := by decide +kernel
set_option maxRecDepth 100000 in
theorem ck_55 : ckA mt_55 pg_55 0 pg_55 = true := by decide +kernel
set_option maxRecDepth 100000 in
theorem ck_56 : ckA mt_56 pg_56 0 pg_56 = true := by decide +kernel
set_option maxRecDepth 100000 in
theorem ck_57 : ckA mt_57 pg_57 0 pg_57 = true := by decide +kernel
set_option maxRecDepth 100000 in
theorem ck_58 : ckA mt_58 pg_58 0 pg_58 = true := by decide +kernel
set_option maxRecDepth 100000 in
theorem ck_59 : ckA mt_59 pg_59 0 pg_59 = true := by decide +kernel
set_option maxRecDepth 100000 in
theorem ck_60 : ckA mt_60 pg_60 0 pg_60 = true := by decide +kernel
set_option maxRecDepth 100000 in
theorem ck_61 : ckA mt_61 pg_61 0 pg_61 = true := by decide +kernel
set_option maxRecDepth 100000 in
theorem ck_62 : ckA mt_62 pg_62 0 pg_62 = true := by decide +kernel
set_option maxRecDepth 100000 in
theorem ck_63 : ckA mt_63 pg_63 0 pg_63 = true := by decide +kernel
set_option maxRecDepth 100000 in
theorem ck_64 : ckA mt_64 pg_64 0 pg_64 = true := by decide +kernel
set_option maxRecDepth 100000 in
theorem ck_65 : ckA mt_65 pg_65 0 pg_65 = true := by decide +kernel
set_option maxRecDepth 100000 in
theorem ck_66 : ckA mt_66 pg_66 0 pg_66 = true := by decide +kernel
set_option maxRecDepth 100000 in
theorem ck_67 : ckA mt_67 pg_67 0 pg_67 = true := by decide +kernel
set_option maxRecDepth 100000 in
theorem ck_68 : ckA mt_68 pg_68 0 pg_68 = true := by decide +kernel
set_option maxRecDepth 100000 in
theorem ck_69 : ckA mt_69 pg_69 0 pg_69 = true := by decide +kernel
