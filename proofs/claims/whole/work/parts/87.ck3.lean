set_option maxRecDepth 100000 in
theorem ck_170 : ckA mt_170 pg_170 0 pg_170 = true := by decide +kernel
set_option maxRecDepth 100000 in
theorem ck_171 : ckA mt_171 pg_171 0 pg_171 = true := by decide +kernel
set_option maxRecDepth 100000 in
theorem ck_172 : ckA mt_172 pg_172 0 pg_172 = true := by decide +kernel
set_option maxRecDepth 100000 in
theorem ck_173 : ckA mt_173 pg_173 0 pg_173 = true := by decide +kernel
set_option maxRecDepth 100000 in
theorem ck_174 : ckA mt_174 pg_174 0 pg_174 = true := by decide +kernel
set_option maxRecDepth 100000 in
theorem ck_175 : ckA mt_175 pg_175 0 pg_175 = true := by decide +kernel
set_option maxRecDepth 100000 in
theorem ck_176 : ckA mt_176 pg_176 0 pg_176 = true := by decide +kernel
set_option maxRecDepth 100000 in
theorem ck_177 : ckA mt_177 pg_177 0 pg_177 = true := by decide +kernel
set_option maxRecDepth 100000 in
theorem ck_178 : ckA mt_178 pg_178 0 pg_178 = true := by decide +kernel
set_option maxRecDepth 100000 in
theorem ck_179 : ckA mt_179 pg_179 0 pg_179 = true := by decide +kernel
set_option maxRecDepth 100000 in
theorem ck_180 : ckA mt_180 pg_180 0 pg_180 = true := by decide +kernel
set_option maxRecDepth 100000 in
theorem ck_181 : ckA mt_181 pg_181 0 pg_181 = true := by decide +kernel
set_option maxRecDepth 100000 in
theorem ck_182 : ckA mt_182 pg_182 0 pg_182 = true := by decide +kernel
set_option maxRecDepth 100000 in
theorem ck_183 : ckA mt_183 pg_183 0 pg_183 = true := by decide +kernel
set_option maxRecDepth 100000 in
theorem ck_184 : ckA mt_184 pg_184 0 pg_184 = true := by decide +kernel
set_option maxRecDepth 100000 in
theorem ck_185 : ckA mt_185 pg_185 0 pg_185 = true := by decide +kernel
set_option maxRecDepth 100000 in
theorem ck_186 : ckA mt_186 pg_186 0 pg_186 = true := by decide +kernel
set_option maxRecDepth 100000 in
theorem ck_187 : ckA mt_187 pg_187 0 pg_187 = true := by decide +kernel
set_option maxRecDepth 100000 in
theorem ck_188 : ckA mt_188 pg_188 0 pg_188 = true := by decide +kernel
set_option maxRecDepth 100000 in
theorem ck_189 : ckA mt_189 pg_189 0 pg_189 = true := by decide +kernel
set_option maxRecDepth 100000 in
theorem ck_190 : ckA mt_190 pg_190 0 pg_190 = true := by decide +kernel
set_option maxRecDepth 100000 in
theorem ck_191 : ckA mt_191 pg_191 0 pg_191 = true := by decide +kernel
set_option maxRecDepth 100000 in
theorem ck_192 : ckA mt_192 pg_192 0 pg_192 = true := by decide +kernel
set_option maxRecDepth 100000 in
theorem ck_193 : ckA mt_193 pg_193 0 pg_193 = true := by decide +kernel
set_option maxRecDepth 100000 in
theorem ck_194 : ckA mt_194 pg_194 0 pg_194 = true := by decide +kernel
set_option maxRecDepth 100000 in
theorem ck_195 : ckA mt_195 pg_195 0 pg_195 = true := by decide +kernel
set_option maxRecDepth 100000 in
theorem ck_196 : ckA mt_196 pg_196 0 pg_196 = true := by decide +kernel
set_option maxRecDepth 100000 in
theorem ck_197 : ckA mt_197 pg_197 0 pg_197 = true := by decide +kernel
set_option maxRecDepth 100000 in
theorem ck_198 : ckA mt_198 pg_198 0 pg_198 = true := by decide +kernel
set_option maxRecDepth 100000 in
theorem ck_199 : ckA mt_199 pg_199 0 pg_199 = true := by decide +kernel
set_option maxRecDepth 100000 in
theorem ck_200 : ckA mt_200 pg_200 0 pg_200 = true := by decide +kernel
set_option maxRecDepth 100000 in
theorem ck_201 : ckA mt_201 pg_201 0 pg_201 = true := by decide +kernel
set_option maxRecDepth 100000 in
theorem ck_202 : ckA mt_202 pg_202 0 pg_202 = true := by decide +kernel
set_option maxRecDepth 100000 in
theorem ck_203 : ckA mt_203 pg_203 0 pg_203 = true := by decide +kernel
set_option maxRecDepth 100000 in
theorem ck_204 : ckA mt_204 pg_204 0 pg_204 = true := by decide +kernel
set_option maxRecDepth 100000 in
theorem ck_205 : ckA mt_205 pg_205 0 pg_205 = true := by decide +kernel
set_option maxRecDepth 100000 in
theorem ck_206 : ckA mt_206 pg_206 0 pg_206 = true := by decide +kernel
set_option maxRecDepth 100000 in
theorem ck_207 : ckA mt_207 pg_207 0 pg_207 = true := by decide +kernel
set_option maxRecDepth 100000 in
theorem ck_208 : ckA mt_208 pg_208 0 pg_208 = true := by decide +kernel
set_option maxRecDepth 100000 in
theorem ck_209 : ckA mt_209 pg_209 0 pg_209 = true := by decide +kernel
set_option maxRecDepth 100000 in
theorem ck_210 : ckA mt_210 pg_210 0 pg_210 = true := by decide +kernel
set_option maxRecDepth 100000 in
theorem ck_211 : ckA mt_211 pg_211 0 pg_211 = true := by decide +kernel
set_option maxRecDepth 100000 in
theorem ck_212 : ckA mt_212 pg_212 0 pg_212 = true := by decide +kernel
set_option maxRecDepth 100000 in
theorem ck_213 : ckA mt_213 pg_213 0 pg_213 = true := by decide +kernel
set_option maxRecDepth 100000 in
theorem ck_214 : ckA mt_214 pg_214 0 pg_214 = true := by decide +kernel
set_option maxRecDepth 100000 in
theorem ck_215 : ckA mt_215 pg_215 0 pg_215 = true := by decide +kernel
set_option maxRecDepth 100000 in
theorem ck_216 : ckA mt_216 pg_216 0 pg_216 = true := by decide +kernel
set_option maxRecDepth 100000 in
theorem ck_217 : ckA mt_217 pg_217 0 pg_217 = true := by decide +kernel
set_option maxRecDepth 100000 in
theorem ck_218 : ckA mt_218 pg_218 0 pg_218 = true := by decide +kernel
set_option maxRecDepth 100000 in
theorem ck_219 : ckA mt_219 pg_219 0 pg_219 = true := by decide +kernel
set_option maxRecDepth 100000 in
theorem ck_220 : ckA mt_220 pg_220 0 pg_220 = true := by decide +kernel
set_option maxRecDepth 100000 in
theorem ck_221 : ckA mt_221 pg_221 0 pg_221 = true := by decide +kernel
set_option maxRecDepth 100000 in
theorem ck_222 : ckA mt_222 pg_222 0 pg_222 = true := by decide +kernel
set_option maxRecDepth 100000 in
theorem ck_223 : ckA mt_223 pg_223 0 pg_223 = true := by decide +kernel
set_option maxRecDepth 100000 in
theorem ck_224 : ckA mt_224 pg_224 0 pg_224 = true := by decide +kernel
set_option maxRecDepth 100000 in
theorem ck_225 : ckA mt_225 pg_225 0 pg_225 = true := by decide +kernel
set_option maxRecDepth 100000 in
theorem ck_226 : ckA mt_226 pg_226 0 pg_226 = true := by decide +kernel
set_option maxRecDepth 100000 in
theorem ck_227 : ckA mt_227 pg_227 0 pg_227 = true := by decide +kernel
set_option maxRecDepth 100000 in
theorem ck_228 : ckA mt_228 pg_228 0 pg_228 = true := by decide +kernel
set_option maxRecDepth 100000 in
theorem ck_229 : ckA mt_229 pg_229 0 pg_229 = true := by decide +kernel
