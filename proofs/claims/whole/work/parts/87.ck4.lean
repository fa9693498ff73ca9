set_option maxRecDepth 100000 in
theorem ck_230 : ckA mt_230 pg_230 0 pg_230 = true := by decide +kernel
set_option maxRecDepth 100000 in
theorem ck_231 : ckA mt_231 pg_231 0 pg_231 = true := by decide +kernel
set_option maxRecDepth 100000 in
theorem ck_232 : ckA mt_232 pg_232 0 pg_232 = true := by decide +kernel
set_option maxRecDepth 100000 in
theorem ck_233 : ckA mt_233 pg_233 0 pg_233 = true := by decide +kernel
set_option maxRecDepth 100000 in
theorem ck_234 : ckA mt_234 pg_234 0 pg_234 = true := by decide +kernel
set_option maxRecDepth 100000 in
theorem ck_235 : ckA mt_235 pg_235 0 pg_235 = true := by decide +kernel
set_option maxRecDepth 100000 in
theorem ck_236 : ckA mt_236 pg_236 0 pg_236 = true := by decide +kernel
set_option maxRecDepth 100000 in
theorem ck_237 : ckA mt_237 pg_237 0 pg_237 = true := by decide +kernel
set_option maxRecDepth 100000 in
theorem ck_238 : ckA mt_238 pg_238 0 pg_238 = true := by decide +kernel
set_option maxRecDepth 100000 in
theorem ck_239 : ckA mt_239 pg_239 0 pg_239 = true := by decide +kernel
set_option maxRecDepth 100000 in
theorem ck_240 : ckA mt_240 pg_240 0 pg_240 = true := by decide +kernel
set_option maxRecDepth 100000 in
theorem ck_241 : ckA mt_241 pg_241 0 pg_241 = true := by decide +kernel
set_option maxRecDepth 100000 in
theorem ck_242 : ckA mt_242 pg_242 0 pg_242 = true := by decide +kernel
set_option maxRecDepth 100000 in
theorem ck_243 : ckA mt_243 pg_243 0 pg_243 = true := by decide +kernel
set_option maxRecDepth 100000 in
theorem ck_244 : ckA mt_244 pg_244 0 pg_244 = true := by decide +kernel
set_option maxRecDepth 100000 in
theorem ck_245 : ckA mt_245 pg_245 0 pg_245 = true := by decide +kernel
set_option maxRecDepth 100000 in
theorem ck_246 : ckA mt_246 pg_246 0 pg_246 = true := by decide +kernel
set_option maxRecDepth 100000 in
theorem ck_247 : ckA mt_247 pg_247 0 pg_247 = true := by decide +kernel
set_option maxRecDepth 100000 in
theorem ck_248 : ckA mt_248 pg_248 0 pg_248 = true := by decide +kernel
set_option maxRecDepth 100000 in
theorem ck_249 : ckA mt_249 pg_249 0 pg_249 = true := by decide +kernel
set_option maxRecDepth 100000 in
theorem ck_250 : ckA mt_250 pg_250 0 pg_250 = true := by decide +kernel
set_option maxRecDepth 100000 in
theorem ck_251 : ckA mt_251 pg_251 0 pg_251 = true := by decide +kernel
set_option maxRecDepth 100000 in
theorem ck_252 : ckA mt_252 pg_252 0 pg_252 = true := by decide +kernel
set_option maxRecDepth 100000 in
theorem ck_253 : ckA mt_253 pg_253 0 pg_253 = true := by decide +kernel
set_option maxRecDepth 100000 in
theorem ck_254 : ckA mt_254 pg_254 0 pg_254 = true := by decide +kernel
set_option maxRecDepth 100000 in
theorem ck_255 : ckA mt_255 pg_255 0 pg_255 = true := by decide +kernel
set_option maxRecDepth 100000 in
theorem ck_256 : ckA mt_256 pg_256 0 pg_256 = true := by decide +kernel
set_option maxRecDepth 100000 in
theorem ck_257 : ckA mt_257 pg_257 0 pg_257 = true := by decide +kernel
set_option maxRecDepth 100000 in
theorem ck_258 : ckA mt_258 pg_258 0 pg_258 = true := by decide +kernel
set_option maxRecDepth 100000 in
theorem ck_259 : ckA mt_259 pg_259 0 pg_259 = true := by decide +kernel
set_option maxRecDepth 100000 in
theorem ck_260 : ckA mt_260 pg_260 0 pg_260 = true := by decide +kernel
set_option maxRecDepth 100000 in
theorem ck_261 : ckA mt_261 pg_261 0 pg_261 = true := by decide +kernel
set_option maxRecDepth 100000 in
theorem ck_262 : ckA mt_262 pg_262 0 pg_262 = true := by decide +kernel
set_option maxRecDepth 100000 in
theorem ck_263 : ckA mt_263 pg_263 0 pg_263 = true := by decide +kernel
set_option maxRecDepth 100000 in
theorem ck_264 : ckA mt_264 pg_264 0 pg_264 = true := by decide +kernel
set_option maxRecDepth 100000 in
theorem ck_265 : ckA mt_265 pg_265 0 pg_265 = true := by decide +kernel
set_option maxRecDepth 100000 in
theorem ck_266 : ckA mt_266 pg_266 0 pg_266 = true := by decide +kernel
set_option maxRecDepth 100000 in
theorem ck_267 : ckA mt_267 pg_267 0 pg_267 = true := by decide +kernel
set_option maxRecDepth 100000 in
theorem ck_268 : ckA mt_268 pg_268 0 pg_268 = true := by decide +kernel
set_option maxRecDepth 100000 in
theorem ck_269 : ckA mt_269 pg_269 0 pg_269 = true := by decide +kernel
set_option maxRecDepth 100000 in
theorem ck_270 : ckA mt_270 pg_270 0 pg_270 = true := by decide +kernel
set_option maxRecDepth 100000 in
theorem ck_271 : ckA mt_271 pg_271 0 pg_271 = true := by decide +kernel
set_option maxRecDepth 100000 in
theorem ck_272 : ckA mt_272 pg_272 0 pg_272 = true := by decide +kernel
set_option maxRecDepth 100000 in
theorem ck_273 : ckA mt_273 pg_273 0 pg_273 = true := by decide +kernel
set_option maxRecDepth 100000 in
theorem ck_274 : ckA mt_274 pg_274 0 pg_274 = true := by decide +kernel
set_option maxRecDepth 100000 in
theorem ck_275 : ckA mt_275 pg_275 0 pg_275 = true := by decide +kernel
set_option maxRecDepth 100000 in
theorem ck_276 : ckA mt_276 pg_276 0 pg_276 = true := by decide +kernel
set_option maxRecDepth 100000 in
theorem ck_277 : ckA mt_277 pg_277 0 pg_277 = true := by decide +kernel
set_option maxRecDepth 100000 in
theorem ck_278 : ckA mt_278 pg_278 0 pg_278 = true := by decide +kernel
set_option maxRecDepth 100000 in
theorem ck_279 : ckA mt_279 pg_279 0 pg_279 = true := by decide +kernel
set_option maxRecDepth 100000 in
theorem ck_280 : ckA mt_280 pg_280 0 pg_280 = true := by decide +kernel
set_option maxRecDepth 100000 in
theorem ck_281 : ckA mt_281 pg_281 0 pg_281 = true := by decide +kernel
set_option maxRecDepth 100000 in
theorem ck_282 : ckA mt_282 pg_282 0 pg_282 = true := by decide +kernel
set_option maxRecDepth 100000 in
theorem ck_283 : ckA mt_283 pg_283 0 pg_283 = true := by decide +kernel
set_option maxRecDepth 100000 in
theorem ck_284 : ckA mt_284 pg_284 0 pg_284 = true := by decide +kernel
set_option maxRecDepth 100000 in
theorem ck_285 : ckA mt_285 pg_285 0 pg_285 = true := by decide +kernel
set_option maxRecDepth 100000 in
theorem ck_286 : ckA mt_286 pg_286 0 pg_286 = true := by decide +kernel
set_option maxRecDepth 100000 in
theorem ck_287 : ckA mt_287 pg_287 0 pg_287 = true := by decide +kernel
set_option maxRecDepth 100000 in
theorem ck_288 : ckA mt_288 pg_288 0 pg_288 = true := by decide +kernel
set_option maxRecDepth 100000 in
theorem ck_289 : ckA mt_289 pg_289 0 pg_289 = true := by decide +kernel
set_option maxRecDepth 100000 in
theorem ck_290 : ckA mt_290 pg_290 0 pg_290 = true := by decide +kernel
set_option maxRecDepth 100000 in
theorem ck_291 : ckA mt_291 pg_291 0 pg_291 = true := by decide +kernel
set_option maxRecDepth 100000 in
theorem ck_292 : ckA mt_292 pg_292 0 pg_292 = true := by decide +kernel
set_option maxRecDepth 100000 in
theorem ck_293 : ckA mt_293 pg_293 0 pg_293 = true := by decide +kernel
set_option maxRecDepth 100000 in
theorem ck_294 : ckA mt_294 pg_294 0 pg_294 = true := by decide +kernel
set_option maxRecDepth 100000 in
theorem ck_295 : ckA mt_295 pg_295 0 pg_295 = true := by decide +kernel
set_option maxRecDepth 100000 in
theorem ck_296 : ckA mt_296 pg_296 0 pg_296 = true := by decide +kernel
set_option maxRecDepth 100000 in
theorem ck_297 : ckA mt_297 pg_297 0 pg_297 = true := by decide +kernel
set_option maxRecDepth 100000 in
theorem ck_298 : ckA mt_298 pg_298 0 pg_298 = true := by decide +kernel
set_option maxRecDepth 100000 in
theorem ck_299 : ckA mt_299 pg_299 0 pg_299 = true := by decide +kernel
set_option maxRecDepth 100000 in
theorem ck_300 : ckA mt_300 pg_300 0 pg_300 = true := by decide +kernel
set_option maxRecDepth 100000 in
theorem ck_301 : ckA mt_301 pg_301 0 pg_301 = true := by decide +kernel
set_option maxRecDepth 100000 in
theorem ck_302 : ckA mt_302 pg_302 0 pg_302 = true := by decide +kernel
set_option maxRecDepth 100000 in
theorem ck_303 : ckA mt_303 pg_303 0 pg_303 = true := by decide +kernel
set_option maxRecDepth 100000 in
theorem ck_304 : ckA mt_304 pg_304 0 pg_304 = true := by decide +kernel
set_option maxRecDepth 100000 in
theorem ck_305 : ckA mt_305 pg_305 0 pg_305 = true := by decide +kernel
set_option maxRecDepth 100000 in
theorem ck_306 : ckA mt_306 pg_306 0 pg_306 = true := by decide +kernel
set_option maxRecDepth 100000 in
theorem ck_307 : ckA mt_307 pg_307 0 pg_307 = true := by decide +kernel
set_option maxRecDepth 100000 in
theorem ck_308 : ckA mt_308 pg_308 0 pg_308 = true := by decide +kernel
set_option maxRecDepth 100000 in
theorem ck_309 : ckA mt_309 pg_309 0 pg_309 = true := by decide +kernel
set_option maxRecDepth 100000 in
theorem ck_310 : ckA mt_310 pg_310 0 pg_310 = true := by decide +kernel
set_option maxRecDepth 100000 in
theorem ck_311 : ckA mt_311 pg_311 0 pg_311 = true := by decide +kernel
set_option maxRecDepth 100000 in
theorem ck_312 : ckA mt_312 pg_312 0 pg_312 = true := by decide +kernel
set_option maxRecDepth 100000 in
theorem ck_313 : ckA mt_313 pg_313 0 pg_313 = true := by decide +kernel
set_option maxRecDepth 100000 in
theorem ck_314 : ckA mt_314 pg_314 0 pg_314 = true := by decide +kernel
set_option maxRecDepth 100000 in
theorem ck_315 : ckA mt_315 pg_315 0 pg_315 = true := by decide +kernel
set_option maxRecDepth 100000 in
theorem ck_316 : ckA mt_316 pg_316 0 pg_316 = true := by decide +kernel
set_option maxRecDepth 100000 in
theorem ck_317 : ckA mt_317 pg_317 0 pg_317 = true := by decide +kernel
set_option maxRecDepth 100000 in
theorem ck_318 : ckA mt_318 pg_318 0 pg_318 = true := by decide +kernel
