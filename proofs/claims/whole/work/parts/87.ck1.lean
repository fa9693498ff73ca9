set_option maxRecDepth 100000 in
theorem ck_70 : ckA mt_70 pg_70 0 pg_70 = true := by decide +kernel
set_option maxRecDepth 100000 in
theorem ck_71 : ckA mt_71 pg_71 0 pg_71 = true := by decide +kernel
set_option maxRecDepth 100000 in
theorem ck_72 : ckA mt_72 pg_72 0 pg_72 = true := by decide +kernel
set_option maxRecDepth 100000 in
theorem ck_73 : ckA mt_73 pg_73 0 pg_73 = true := by decide +kernel
set_option maxRecDepth 100000 in
theorem ck_74 : ckA mt_74 pg_74 0 pg_74 = true := by decide +kernel
set_option maxRecDepth 100000 in
theorem ck_75 : ckA mt_75 pg_75 0 pg_75 = true := by decide +kernel
set_option maxRecDepth 100000 in
theorem ck_76 : ckA mt_76 pg_76 0 pg_76 = true := by decide +kernel
set_option maxRecDepth 100000 in
theorem ck_77 : ckA mt_77 pg_77 0 pg_77 = true := by decide +kernel
set_option maxRecDepth 100000 in
theorem ck_78 : ckA mt_78 pg_78 0 pg_78 = true := by decide +kernel
set_option maxRecDepth 100000 in
theorem ck_79 : ckA mt_79 pg_79 0 pg_79 = true := by decide +kernel
set_option maxRecDepth 100000 in
theorem ck_80 : ckA mt_80 pg_80 0 pg_80 = true := by decide +kernel
set_option maxRecDepth 100000 in
theorem ck_81 : ckA mt_81 pg_81 0 pg_81 = true := by decide +kernel
set_option maxRecDepth 100000 in
theorem ck_82 : ckA mt_82 pg_82 0 pg_82 = true := by decide +kernel
set_option maxRecDepth 100000 in
theorem ck_83 : ckA mt_83 pg_83 0 pg_83 = true := by decide +kernel
set_option maxRecDepth 100000 in
theorem ck_84 : ckA mt_84 pg_84 0 pg_84 = true := by decide +kernel
set_option maxRecDepth 100000 in
theorem ck_85 : ckA mt_85 pg_85 0 pg_85 = true := by decide +kernel
set_option maxRecDepth 100000 in
theorem ck_86 : ckA mt_86 pg_86 0 pg_86 = true := by decide +kernel
set_option maxRecDepth 100000 in
theorem ck_87 : ckA mt_87 pg_87 0 pg_87 = true := by decide +kernel
set_option maxRecDepth 100000 in
theorem ck_88 : ckA mt_88 pg_88 0 pg_88 = true := by decide +kernel
set_option maxRecDepth 100000 in
theorem ck_89 : ckA mt_89 pg_89 0 pg_89 = true := by decide +kernel
set_option maxRecDepth 100000 in
theorem ck_90 : ckA mt_90 pg_90 0 pg_90 = true := by decide +kernel
set_option maxRecDepth 100000 in
theorem ck_91 : ckA mt_91 pg_91 0 pg_91 = true := by decide +kernel
set_option maxRecDepth 100000 in
theorem ck_92 : ckA mt_92 pg_92 0 pg_92 = true := by decide +kernel
set_option maxRecDepth 100000 in
theorem ck_93 : ckA mt_93 pg_93 0 pg_93 = true := by decide +kernel
set_option maxRecDepth 100000 in
theorem ck_94 : ckA mt_94 pg_94 0 pg_94 = true := by decide +kernel
set_option maxRecDepth 100000 in
theorem ck_95 : ckA mt_95 pg_95 0 pg_95 = true := by decide +kernel
set_option maxRecDepth 100000 in
theorem ck_96 : ckA mt_96 pg_96 0 pg_96 = true := by decide +kernel
set_option maxRecDepth 100000 in
theorem ck_97 : ckA mt_97 pg_97 0 pg_97 = true := by decide +kernel
set_option maxRecDepth 100000 in
theorem ck_98 : ckA mt_98 pg_98 0 pg_98 = true := by decide +kernel
set_option maxRecDepth 100000 in
theorem ck_99 : ckA mt_99 pg_99 0 pg_99 = true := by decide +kernel
set_option maxRecDepth 100000 in
theorem ck_100 : ckA mt_100 pg_100 0 pg_100 = true := by decide +kernel
set_option maxRecDepth 100000 in
theorem ck_101 : ckA mt_101 pg_101 0 pg_101 = true := by decide +kernel
set_option maxRecDepth 100000 in
theorem ck_102 : ckA mt_102 pg_102 0 pg_102 = true := by decide +kernel
set_option maxRecDepth 100000 in
theorem ck_103 : ckA mt_103 pg_103 0 pg_103 = true := by decide +kernel
set_option maxRecDepth 100000 in
theorem ck_104 : ckA mt_104 pg_104 0 pg_104 = true := by decide +kernel
set_option maxRecDepth 100000 in
theorem ck_105 : ckA mt_105 pg_105 0 pg_105 = true := by decide +kernel
set_option maxRecDepth 100000 in
theorem ck_106 : ckA mt_106 pg_106 0 pg_106 = true := by decide +kernel
set_option maxRecDepth 100000 in
theorem ck_107 : ckA mt_107 pg_107 0 pg_107 = true := by decide +kernel
set_option maxRecDepth 100000 in
theorem ck_108 : ckA mt_108 pg_108 0 pg_108 = true := by decide +kernel
set_option maxRecDepth 100000 in
theorem ck_109 : ckA mt_109 pg_109 0 pg_109 = true := by decide +kernel
