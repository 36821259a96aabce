/-! the small code of methods 247 to 309 is the machine's -/
set_option maxRecDepth 100000 in
theorem ck_247 : m_ckS lkf_12 (p_TT 247) (p_INI 247) false (m_tgb s_247) p_rab (fun _ => false) (p_B 247) s_247 = true := by decide +kernel
set_option maxRecDepth 100000 in
theorem ck_248 : m_ckS lkf_12 (p_TT 248) (p_INI 248) false (m_tgb s_248) p_rab (fun _ => false) (p_B 248) s_248 = true := by decide +kernel
set_option maxRecDepth 100000 in
theorem ck_249 : m_ckS lkf_12 (p_TT 249) (p_INI 249) false (m_tgb s_249) p_rab (fun _ => false) (p_B 249) s_249 = true := by decide +kernel
set_option maxRecDepth 100000 in
theorem ck_250 : m_ckS lkf_12 (p_TT 250) (p_INI 250) false (m_tgb s_250) p_rab (fun _ => false) (p_B 250) s_250 = true := by decide +kernel
set_option maxRecDepth 100000 in
theorem ck_251 : m_ckS lkf_12 (p_TT 251) (p_INI 251) false (m_tgb s_251) p_rab (fun _ => false) (p_B 251) s_251 = true := by decide +kernel
set_option maxRecDepth 100000 in
theorem ck_252 : m_ckS lkf_12 (p_TT 252) (p_INI 252) false (m_tgb s_252) p_rab (fun _ => false) (p_B 252) s_252 = true := by decide +kernel
set_option maxRecDepth 100000 in
theorem ck_253 : m_ckS lkf_12 (p_TT 253) (p_INI 253) false (m_tgb s_253) p_rab (fun _ => false) (p_B 253) s_253 = true := by decide +kernel
set_option maxRecDepth 100000 in
theorem ck_254 : m_ckS lkf_12 (p_TT 254) (p_INI 254) false (m_tgb s_254) p_rab (fun _ => false) (p_B 254) s_254 = true := by decide +kernel
set_option maxRecDepth 100000 in
theorem ck_255 : m_ckS lkf_12 (p_TT 255) (p_INI 255) false (m_tgb s_255) p_rab (fun _ => false) (p_B 255) s_255 = true := by decide +kernel
set_option maxRecDepth 100000 in
theorem ck_256 : m_ckS lkf_12 (p_TT 256) (p_INI 256) false (m_tgb s_256) p_rab (fun _ => false) (p_B 256) s_256 = true := by decide +kernel
set_option maxRecDepth 100000 in
theorem ck_257 : m_ckS lkf_12 (p_TT 257) (p_INI 257) false (m_tgb s_257) p_rab (fun _ => false) (p_B 257) s_257 = true := by decide +kernel
set_option maxRecDepth 100000 in
theorem ck_258 : m_ckS lkf_12 (p_TT 258) (p_INI 258) false (m_tgb s_258) p_rab (fun _ => false) (p_B 258) s_258 = true := by decide +kernel
set_option maxRecDepth 100000 in
theorem ck_259 : m_ckS lkf_12 (p_TT 259) (p_INI 259) false (m_tgb s_259) p_rab (fun _ => false) (p_B 259) s_259 = true := by decide +kernel
set_option maxRecDepth 100000 in
theorem ck_260 : m_ckS lkf_12 (p_TT 260) (p_INI 260) false (m_tgb s_260) p_rab (fun _ => false) (p_B 260) s_260 = true := by decide +kernel
set_option maxRecDepth 100000 in
theorem ck_261 : m_ckS lkf_12 (p_TT 261) (p_INI 261) false (m_tgb s_261) p_rab (fun _ => false) (p_B 261) s_261 = true := by decide +kernel
set_option maxRecDepth 100000 in
theorem ck_262 : m_ckS lkf_12 (p_TT 262) (p_INI 262) false (m_tgb s_262) p_rab (fun _ => false) (p_B 262) s_262 = true := by decide +kernel
set_option maxRecDepth 100000 in
theorem ck_263 : m_ckS lkf_12 (p_TT 263) (p_INI 263) false (m_tgb s_263) p_rab (fun _ => false) (p_B 263) s_263 = true := by decide +kernel
set_option maxRecDepth 100000 in
theorem ck_264 : m_ckS lkf_12 (p_TT 264) (p_INI 264) false (m_tgb s_264) p_rab (fun _ => false) (p_B 264) s_264 = true := by decide +kernel
set_option maxRecDepth 100000 in
theorem ck_265 : m_ckS lkf_12 (p_TT 265) (p_INI 265) false (m_tgb s_265) p_rab (fun _ => false) (p_B 265) s_265 = true := by decide +kernel
set_option maxRecDepth 100000 in
theorem ck_266 : m_ckS lkf_12 (p_TT 266) (p_INI 266) false (m_tgb s_266) p_rab (fun _ => false) (p_B 266) s_266 = true := by decide +kernel
set_option maxRecDepth 100000 in
theorem ck_267 : m_ckS lkf_12 (p_TT 267) (p_INI 267) false (m_tgb s_267) p_rab (fun _ => false) (p_B 267) s_267 = true := by decide +kernel
set_option maxRecDepth 100000 in
theorem ck_268 : m_ckS lkf_12 (p_TT 268) (p_INI 268) false (m_tgb s_268) p_rab (fun _ => false) (p_B 268) s_268 = true := by decide +kernel
set_option maxRecDepth 100000 in
theorem ck_269 : m_ckS lkf_12 (p_TT 269) (p_INI 269) false (m_tgb s_269) p_rab (fun _ => false) (p_B 269) s_269 = true := by decide +kernel
set_option maxRecDepth 100000 in
theorem ck_270 : m_ckS lkf_12 (p_TT 270) (p_INI 270) false (m_tgb s_270) p_rab (fun _ => false) (p_B 270) s_270 = true := by decide +kernel
set_option maxRecDepth 100000 in
theorem ck_271 : m_ckS lkf_12 (p_TT 271) (p_INI 271) false (m_tgb s_271) p_rab (fun _ => false) (p_B 271) s_271 = true := by decide +kernel
set_option maxRecDepth 100000 in
theorem ck_272 : m_ckS lkf_12 (p_TT 272) (p_INI 272) false (m_tgb s_272) p_rab (fun _ => false) (p_B 272) s_272 = true := by decide +kernel
set_option maxRecDepth 100000 in
theorem ck_273 : m_ckS lkf_12 (p_TT 273) (p_INI 273) false (m_tgb s_273) p_rab (fun _ => false) (p_B 273) s_273 = true := by decide +kernel
set_option maxRecDepth 100000 in
theorem ck_274 : m_ckS lkf_12 (p_TT 274) (p_INI 274) false (m_tgb s_274) p_rab (fun _ => false) (p_B 274) s_274 = true := by decide +kernel
set_option maxRecDepth 100000 in
theorem ck_275 : m_ckS lkf_12 (p_TT 275) (p_INI 275) false (m_tgb s_275) p_rab (fun _ => false) (p_B 275) s_275 = true := by decide +kernel
set_option maxRecDepth 100000 in
theorem ck_276 : m_ckS lkf_12 (p_TT 276) (p_INI 276) false (m_tgb s_276) p_rab (fun _ => false) (p_B 276) s_276 = true := by decide +kernel
set_option maxRecDepth 100000 in
theorem ck_277 : m_ckS lkf_12 (p_TT 277) (p_INI 277) false (m_tgb s_277) p_rab (fun _ => false) (p_B 277) s_277 = true := by decide +kernel
set_option maxRecDepth 100000 in
theorem ck_278 : m_ckS lkf_12 (p_TT 278) (p_INI 278) false (m_tgb s_278) p_rab (fun _ => false) (p_B 278) s_278 = true := by decide +kernel
set_option maxRecDepth 100000 in
theorem ck_279 : m_ckS lkf_13 (p_TT 279) (p_INI 279) true (m_tgb s_279) p_rab (fun pc => decide (0 ≤ pc) && decide (pc < 9)) (p_B 279) s_279 = true := by decide +kernel
set_option maxRecDepth 100000 in
theorem ck_280 : m_ckS lkf_13 (p_TT 280) (p_INI 280) true (m_tgb s_280) p_rab (fun pc => decide (0 ≤ pc) && decide (pc < 9)) (p_B 280) s_280 = true := by decide +kernel
set_option maxRecDepth 100000 in
theorem ck_281 : m_ckS lkf_13 (p_TT 281) (p_INI 281) true (m_tgb s_281) p_rab (fun pc => decide (0 ≤ pc) && decide (pc < 9)) (p_B 281) s_281 = true := by decide +kernel
set_option maxRecDepth 100000 in
theorem ck_282 : m_ckS lkf_13 (p_TT 282) (p_INI 282) true (m_tgb s_282) p_rab (fun pc => decide (0 ≤ pc) && decide (pc < 16)) (p_B 282) s_282 = true := by decide +kernel
set_option maxRecDepth 100000 in
theorem ck_283 : m_ckS lkf_13 (p_TT 283) (p_INI 283) true (m_tgb s_283) p_rab (fun pc => decide (0 ≤ pc) && decide (pc < 9)) (p_B 283) s_283 = true := by decide +kernel
set_option maxRecDepth 100000 in
theorem ck_284 : m_ckS lkf_13 (p_TT 284) (p_INI 284) true (m_tgb s_284) p_rab (fun pc => decide (0 ≤ pc) && decide (pc < 12)) (p_B 284) s_284 = true := by decide +kernel
set_option maxRecDepth 100000 in
theorem ck_285 : m_ckS lkf_13 (p_TT 285) (p_INI 285) true (m_tgb s_285) p_rab (fun pc => decide (0 ≤ pc) && decide (pc < 9)) (p_B 285) s_285 = true := by decide +kernel
set_option maxRecDepth 100000 in
theorem ck_286 : m_ckS lkf_13 (p_TT 286) (p_INI 286) true (m_tgb s_286) p_rab (fun pc => decide (0 ≤ pc) && decide (pc < 9)) (p_B 286) s_286 = true := by decide +kernel
set_option maxRecDepth 100000 in
theorem ck_287 : m_ckS lkf_13 (p_TT 287) (p_INI 287) true (m_tgb s_287) p_rab (fun pc => decide (0 ≤ pc) && decide (pc < 9)) (p_B 287) s_287 = true := by decide +kernel
set_option maxRecDepth 100000 in
theorem ck_288 : m_ckS lkf_13 (p_TT 288) (p_INI 288) true (m_tgb s_288) p_rab (fun pc => decide (0 ≤ pc) && decide (pc < 12)) (p_B 288) s_288 = true := by decide +kernel
set_option maxRecDepth 100000 in
theorem ck_289 : m_ckS lkf_13 (p_TT 289) (p_INI 289) true (m_tgb s_289) p_rab (fun pc => decide (0 ≤ pc) && decide (pc < 9)) (p_B 289) s_289 = true := by decide +kernel
set_option maxRecDepth 100000 in
theorem ck_290 : m_ckS lkf_13 (p_TT 290) (p_INI 290) true (m_tgb s_290) p_rab (fun pc => decide (0 ≤ pc) && decide (pc < 9)) (p_B 290) s_290 = true := by decide +kernel
set_option maxRecDepth 100000 in
theorem ck_291 : m_ckS lkf_13 (p_TT 291) (p_INI 291) true (m_tgb s_291) p_rab (fun pc => decide (0 ≤ pc) && decide (pc < 9)) (p_B 291) s_291 = true := by decide +kernel
set_option maxRecDepth 100000 in
theorem ck_292 : m_ckS lkf_13 (p_TT 292) (p_INI 292) true (m_tgb s_292) p_rab (fun pc => decide (0 ≤ pc) && decide (pc < 9)) (p_B 292) s_292 = true := by decide +kernel
set_option maxRecDepth 100000 in
theorem ck_293 : m_ckS lkf_13 (p_TT 293) (p_INI 293) true (m_tgb s_293) p_rab (fun pc => decide (0 ≤ pc) && decide (pc < 10)) (p_B 293) s_293 = true := by decide +kernel
set_option maxRecDepth 100000 in
theorem ck_294 : m_ckS lkf_13 (p_TT 294) (p_INI 294) true (m_tgb s_294) p_rab (fun pc => decide (0 ≤ pc) && decide (pc < 10)) (p_B 294) s_294 = true := by decide +kernel
set_option maxRecDepth 100000 in
theorem ck_295 : m_ckS lkf_13 (p_TT 295) (p_INI 295) true (m_tgb s_295) p_rab (fun pc => decide (0 ≤ pc) && decide (pc < 10)) (p_B 295) s_295 = true := by decide +kernel
set_option maxRecDepth 100000 in
theorem ck_296 : m_ckS lkf_13 (p_TT 296) (p_INI 296) true (m_tgb s_296) p_rab (fun pc => decide (0 ≤ pc) && decide (pc < 9)) (p_B 296) s_296 = true := by decide +kernel
set_option maxRecDepth 100000 in
theorem ck_297 : m_ckS lkf_13 (p_TT 297) (p_INI 297) true (m_tgb s_297) p_rab (fun pc => decide (0 ≤ pc) && decide (pc < 10)) (p_B 297) s_297 = true := by decide +kernel
set_option maxRecDepth 100000 in
theorem ck_298 : m_ckS lkf_13 (p_TT 298) (p_INI 298) true (m_tgb s_298) p_rab (fun pc => decide (0 ≤ pc) && decide (pc < 9)) (p_B 298) s_298 = true := by decide +kernel
set_option maxRecDepth 100000 in
theorem ck_299 : m_ckS lkf_13 (p_TT 299) (p_INI 299) true (m_tgb s_299) p_rab (fun pc => decide (0 ≤ pc) && decide (pc < 9)) (p_B 299) s_299 = true := by decide +kernel
set_option maxRecDepth 100000 in
theorem ck_300 : m_ckS lkf_13 (p_TT 300) (p_INI 300) true (m_tgb s_300) p_rab (fun pc => decide (0 ≤ pc) && decide (pc < 9)) (p_B 300) s_300 = true := by decide +kernel
set_option maxRecDepth 100000 in
theorem ck_301 : m_ckS lkf_13 (p_TT 301) (p_INI 301) true (m_tgb s_301) p_rab (fun pc => decide (0 ≤ pc) && decide (pc < 10)) (p_B 301) s_301 = true := by decide +kernel
set_option maxRecDepth 100000 in
theorem ck_302 : m_ckS lkf_13 (p_TT 302) (p_INI 302) true (m_tgb s_302) p_rab (fun pc => decide (0 ≤ pc) && decide (pc < 10)) (p_B 302) s_302 = true := by decide +kernel
set_option maxRecDepth 100000 in
theorem ck_303 : m_ckS lkf_13 (p_TT 303) (p_INI 303) true (m_tgb s_303) p_rab (fun pc => decide (0 ≤ pc) && decide (pc < 8)) (p_B 303) s_303 = true := by decide +kernel
set_option maxRecDepth 100000 in
theorem ck_304 : m_ckS lkf_13 (p_TT 304) (p_INI 304) true (m_tgb s_304) p_rab (fun pc => decide (0 ≤ pc) && decide (pc < 9)) (p_B 304) s_304 = true := by decide +kernel
set_option maxRecDepth 100000 in
theorem ck_305 : m_ckS lkf_13 (p_TT 305) (p_INI 305) true (m_tgb s_305) p_rab (fun pc => decide (0 ≤ pc) && decide (pc < 9)) (p_B 305) s_305 = true := by decide +kernel
set_option maxRecDepth 100000 in
theorem ck_306 : m_ckS lkf_13 (p_TT 306) (p_INI 306) true (m_tgb s_306) p_rab (fun pc => decide (0 ≤ pc) && decide (pc < 9)) (p_B 306) s_306 = true := by decide +kernel
set_option maxRecDepth 100000 in
theorem ck_307 : m_ckS lkf_13 (p_TT 307) (p_INI 307) true (m_tgb s_307) p_rab (fun pc => decide (0 ≤ pc) && decide (pc < 9)) (p_B 307) s_307 = true := by decide +kernel
set_option maxRecDepth 100000 in
theorem ck_308 : m_ckS lkf_13 (p_TT 308) (p_INI 308) true (m_tgb s_308) p_rab (fun pc => decide (0 ≤ pc) && decide (pc < 9)) (p_B 308) s_308 = true := by decide +kernel
