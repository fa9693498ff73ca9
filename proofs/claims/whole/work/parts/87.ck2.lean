set_option maxRecDepth 100000 in
theorem ck_110 : ckA mt_110 pg_110 0 pg_110 = true := by decide +kernel
set_option maxRecDepth 100000 in
theorem ck_111 : ckA mt_111 pg_111 0 pg_111 = true := by decide +kernel
set_option maxRecDepth 100000 in
theorem ck_112 : ckA mt_112 pg_112 0 pg_112 = true := by decide +kernel
set_option maxRecDepth 100000 in
theorem ck_113 : ckA mt_113 pg_113 0 pg_113 = true := by decide +kernel
set_option maxRecDepth 100000 in
theorem ck_114 : ckA mt_114 pg_114 0 pg_114 = true := by decide +kernel
set_option maxRecDepth 100000 in
theorem ck_115 : ckA mt_115 pg_115 0 pg_115 = true := by decide +kernel
set_option maxRecDepth 100000 in
theorem ck_116 : ckA mt_116 pg_116 0 pg_116 = true := by decide +kernel
set_option maxRecDepth 100000 in
theorem ck_117 : ckA mt_117 pg_117 0 pg_117 = true := by decide +kernel
set_option maxRecDepth 100000 in
theorem ck_118 : ckA mt_118 pg_118 0 pg_118 = true := by decide +kernel
set_option maxRecDepth 100000 in
theorem ck_119 : ckA mt_119 pg_119 0 pg_119 = true := by decide +kernel
set_option maxRecDepth 100000 in
theorem ck_120 : ckA mt_120 pg_120 0 pg_120 = true := by decide +kernel
set_option maxRecDepth 100000 in
theorem ck_121 : ckA mt_121 pg_121 0 pg_121 = true := by decide +kernel
set_option maxRecDepth 100000 in
theorem ck_122 : ckA mt_122 pg_122 0 pg_122 = true := by decide +kernel
set_option maxRecDepth 100000 in
theorem ck_123 : ckA mt_123 pg_123 0 pg_123 = true := by decide +kernel
set_option maxRecDepth 100000 in
theorem ck_124 : ckA mt_124 pg_124 0 pg_124 = true := by decide +kernel
set_option maxRecDepth 100000 in
theorem ck_125 : ckA mt_125 pg_125 0 pg_125 = true := by decide +kernel
set_option maxRecDepth 100000 in
theorem ck_126 : ckA mt_126 pg_126 0 pg_126 = true := by decide +kernel
set_option maxRecDepth 100000 in
theorem ck_127 : ckA mt_127 pg_127 0 pg_127 = true := by decide +kernel
set_option maxRecDepth 100000 in
theorem ck_128 : ckA mt_128 pg_128 0 pg_128 = true := by decide +kernel
set_option maxRecDepth 100000 in
theorem ck_129 : ckA mt_129 pg_129 0 pg_129 = true := by decide +kernel
set_option maxRecDepth 100000 in
theorem ck_130 : ckA mt_130 pg_130 0 pg_130 = true := by decide +kernel
set_option maxRecDepth 100000 in
theorem ck_131 : ckA mt_131 pg_131 0 pg_131 = true := by decide +kernel
set_option maxRecDepth 100000 in
theorem ck_132 : ckA mt_132 pg_132 0 pg_132 = true := by decide +kernel
set_option maxRecDepth 100000 in
theorem ck_133 : ckA mt_133 pg_133 0 pg_133 = true := by decide +kernel
set_option maxRecDepth 100000 in
theorem ck_134 : ckA mt_134 pg_134 0 pg_134 = true := by decide +kernel
set_option maxRecDepth 100000 in
theorem ck_135 : ckA mt_135 pg_135 0 pg_135 = true := by decide +kernel
set_option maxRecDepth 100000 in
theorem ck_136 : ckA mt_136 pg_136 0 pg_136 = true := by decide +kernel
set_option maxRecDepth 100000 in
theorem ck_137 : ckA mt_137 pg_137 0 pg_137 = true := by decide +kernel
set_option maxRecDepth 100000 in
theorem ck_138 : ckA mt_138 pg_138 0 pg_138 = true := by decide +kernel
set_option maxRecDepth 100000 in
theorem ck_139 : ckA mt_139 pg_139 0 pg_139 = true := by decide +kernel
set_option maxRecDepth 100000 in
theorem ck_140 : ckA mt_140 pg_140 0 pg_140 = true := by decide +kernel
set_option maxRecDepth 100000 in
theorem ck_141 : ckA mt_141 pg_141 0 pg_141 = true := by decide +kernel
set_option maxRecDepth 100000 in
theorem ck_142 : ckA mt_142 pg_142 0 pg_142 = true := by decide +kernel
set_option maxRecDepth 100000 in
theorem ck_143 : ckA mt_143 pg_143 0 pg_143 = true := by decide +kernel
set_option maxRecDepth 100000 in
theorem ck_144 : ckA mt_144 pg_144 0 pg_144 = true := by decide +kernel
set_option maxRecDepth 100000 in
theorem ck_145 : ckA mt_145 pg_145 0 pg_145 = true := by decide +kernel
set_option maxRecDepth 100000 in
theorem ck_146 : ckA mt_146 pg_146 0 pg_146 = true := by decide +kernel
set_option maxRecDepth 100000 in
theorem ck_147 : ckA mt_147 pg_147 0 pg_147 = true := by decide +kernel
set_option maxRecDepth 100000 in
theorem ck_148 : ckA mt_148 pg_148 0 pg_148 = true := by decide +kernel
set_option maxRecDepth 100000 in
theorem ck_149 : ckA mt_149 pg_149 0 pg_149 = true := by decide +kernel
set_option maxRecDepth 100000 in
theorem ck_150 : ckA mt_150 pg_150 0 pg_150 = true := by decide +kernel
set_option maxRecDepth 100000 in
theorem ck_151 : ckA mt_151 pg_151 0 pg_151 = true := by decide +kernel
set_option maxRecDepth 100000 in
theorem ck_152 : ckA mt_152 pg_152 0 pg_152 = true := by decide +kernel
set_option maxRecDepth 100000 in
theorem ck_153 : ckA mt_153 pg_153 0 pg_153 = true := by decide +kernel
set_option maxRecDepth 100000 in
theorem ck_154 : ckA mt_154 pg_154 0 pg_154 = true := by decide +kernel
set_option maxRecDepth 100000 in
theorem ck_155 : ckA mt_155 pg_155 0 pg_155 = true := by decide +kernel
set_option maxRecDepth 100000 in
theorem ck_156 : ckA mt_156 pg_156 0 pg_156 = true := by decide +kernel
set_option maxRecDepth 100000 in
theorem ck_157 : ckA mt_157 pg_157 0 pg_157 = true := by decide +kernel
set_option maxRecDepth 100000 in
theorem ck_158 : ckA mt_158 pg_158 0 pg_158 = true := by decide +kernel
set_option maxRecDepth 100000 in
theorem ck_159 : ckA mt_159 pg_159 0 pg_159 = true := by decide +kernel
set_option maxRecDepth 100000 in
theorem ck_160 : ckA mt_160 pg_160 0 pg_160 = true := by decide +kernel
set_option maxRecDepth 100000 in
theorem ck_161 : ckA mt_161 pg_161 0 pg_161 = true := by decide +kernel
set_option maxRecDepth 100000 in
theorem ck_162 : ckA mt_162 pg_162 0 pg_162 = true := by decide +kernel
set_option maxRecDepth 100000 in
theorem ck_163 : ckA mt_163 pg_163 0 pg_163 = true := by decide +kernel
set_option maxRecDepth 100000 in
theorem ck_164 : ckA mt_164 pg_164 0 pg_164 = true := by decide +kernel
set_option maxRecDepth 100000 in
theorem ck_165 : ckA mt_165 pg_165 0 pg_165 = true := by decide +kernel
set_option maxRecDepth 100000 in
theorem ck_166 : ckA mt_166 pg_166 0 pg_166 = true := by decide +kernel
set_option maxRecDepth 100000 in
theorem ck_167 : ckA mt_167 pg_167 0 pg_167 = true := by decide +kernel
set_option maxRecDepth 100000 in
theorem ck_168 : ckA mt_168 pg_168 0 pg_168 = true := by decide +kernel
set_option maxRecDepth 100000 in
theorem ck_169 : ckA mt_169 pg_169 0 pg_169 = true := by decide +kernel
