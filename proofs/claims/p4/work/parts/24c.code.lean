/-! the small code of methods 181 to 246 is the machine's -/
set_option maxRecDepth 100000 in
theorem ck_181 : m_ckS lkf_12 (p_TT 181) (p_INI 181) false (m_tgb s_181) p_rab (fun _ => false) (p_B 181) s_181 = true := by decide +kernel
set_option maxRecDepth 100000 in
theorem ck_182 : m_ckS lkf_12 (p_TT 182) (p_INI 182) false (m_tgb s_182) p_rab (fun _ => false) (p_B 182) s_182 = true := by decide +kernel
set_option maxRecDepth 100000 in
theorem ck_183 : m_ckS lkf_12 (p_TT 183) (p_INI 183) false (m_tgb s_183) p_rab (fun _ => false) (p_B 183) s_183 = true := by decide +kernel
set_option maxRecDepth 100000 in
theorem ck_184 : m_ckS lkf_12 (p_TT 184) (p_INI 184) false (m_tgb s_184) p_rab (fun _ => false) (p_B 184) s_184 = true := by decide +kernel
set_option maxRecDepth 100000 in
theorem ck_185 : m_ckS lkf_12 (p_TT 185) (p_INI 185) false (m_tgb s_185) p_rab (fun _ => false) (p_B 185) s_185 = true := by decide +kernel
set_option maxRecDepth 100000 in
theorem ck_186 : m_ckS lkf_12 (p_TT 186) (p_INI 186) false (m_tgb s_186) p_rab (fun _ => false) (p_B 186) s_186 = true := by decide +kernel
set_option maxRecDepth 100000 in
theorem ck_187 : m_ckS lkf_12 (p_TT 187) (p_INI 187) false (m_tgb s_187) p_rab (fun _ => false) (p_B 187) s_187 = true := by decide +kernel
set_option maxRecDepth 100000 in
theorem ck_188 : m_ckS lkf_12 (p_TT 188) (p_INI 188) false (m_tgb s_188) p_rab (fun _ => false) (p_B 188) s_188 = true := by decide +kernel
set_option maxRecDepth 100000 in
theorem ck_189 : m_ckS lkf_12 (p_TT 189) (p_INI 189) false (m_tgb s_189) p_rab (fun _ => false) (p_B 189) s_189 = true := by decide +kernel
set_option maxRecDepth 100000 in
theorem ck_190 : m_ckS lkf_12 (p_TT 190) (p_INI 190) false (m_tgb s_190) p_rab (fun _ => false) (p_B 190) s_190 = true := by decide +kernel
set_option maxRecDepth 100000 in
theorem ck_191 : m_ckS lkf_12 (p_TT 191) (p_INI 191) false (m_tgb s_191) p_rab (fun _ => false) (p_B 191) s_191 = true := by decide +kernel
set_option maxRecDepth 100000 in
theorem ck_192 : m_ckS lkf_12 (p_TT 192) (p_INI 192) false (m_tgb s_192) p_rab (fun _ => false) (p_B 192) s_192 = true := by decide +kernel
set_option maxRecDepth 100000 in
theorem ck_193 : m_ckS lkf_12 (p_TT 193) (p_INI 193) false (m_tgb s_193) p_rab (fun _ => false) (p_B 193) s_193 = true := by decide +kernel
set_option maxRecDepth 100000 in
theorem ck_194 : m_ckS lkf_12 (p_TT 194) (p_INI 194) false (m_tgb s_194) p_rab (fun _ => false) (p_B 194) s_194 = true := by decide +kernel
set_option maxRecDepth 100000 in
theorem ck_195 : m_ckS lkf_12 (p_TT 195) (p_INI 195) false (m_tgb s_195) p_rab (fun _ => false) (p_B 195) s_195 = true := by decide +kernel
set_option maxRecDepth 100000 in
theorem ck_196 : m_ckS lkf_12 (p_TT 196) (p_INI 196) false (m_tgb s_196) p_rab (fun _ => false) (p_B 196) s_196 = true := by decide +kernel
set_option maxRecDepth 100000 in
theorem ck_197 : m_ckS lkf_12 (p_TT 197) (p_INI 197) false (m_tgb s_197) p_rab (fun _ => false) (p_B 197) s_197 = true := by decide +kernel
set_option maxRecDepth 100000 in
theorem ck_198 : m_ckS lkf_12 (p_TT 198) (p_INI 198) false (m_tgb s_198) p_rab (fun _ => false) (p_B 198) s_198 = true := by decide +kernel
set_option maxRecDepth 100000 in
theorem ck_199 : m_ckS lkf_12 (p_TT 199) (p_INI 199) false (m_tgb s_199) p_rab (fun _ => false) (p_B 199) s_199 = true := by decide +kernel
set_option maxRecDepth 100000 in
theorem ck_200 : m_ckS lkf_12 (p_TT 200) (p_INI 200) false (m_tgb s_200) p_rab (fun _ => false) (p_B 200) s_200 = true := by decide +kernel
set_option maxRecDepth 100000 in
theorem ck_201 : m_ckS lkf_12 (p_TT 201) (p_INI 201) false (m_tgb s_201) p_rab (fun _ => false) (p_B 201) s_201 = true := by decide +kernel
set_option maxRecDepth 100000 in
theorem ck_202 : m_ckS lkf_12 (p_TT 202) (p_INI 202) false (m_tgb s_202) p_rab (fun _ => false) (p_B 202) s_202 = true := by decide +kernel
set_option maxRecDepth 100000 in
theorem ck_203 : m_ckS lkf_12 (p_TT 203) (p_INI 203) false (m_tgb s_203) p_rab (fun _ => false) (p_B 203) s_203 = true := by decide +kernel
set_option maxRecDepth 100000 in
theorem ck_204 : m_ckS lkf_12 (p_TT 204) (p_INI 204) false (m_tgb s_204) p_rab (fun _ => false) (p_B 204) s_204 = true := by decide +kernel
set_option maxRecDepth 100000 in
theorem ck_205 : m_ckS lkf_12 (p_TT 205) (p_INI 205) false (m_tgb s_205) p_rab (fun _ => false) (p_B 205) s_205 = true := by decide +kernel
set_option maxRecDepth 100000 in
theorem ck_206 : m_ckS lkf_12 (p_TT 206) (p_INI 206) false (m_tgb s_206) p_rab (fun _ => false) (p_B 206) s_206 = true := by decide +kernel
set_option maxRecDepth 100000 in
theorem ck_207 : m_ckS lkf_12 (p_TT 207) (p_INI 207) false (m_tgb s_207) p_rab (fun _ => false) (p_B 207) s_207 = true := by decide +kernel
set_option maxRecDepth 100000 in
theorem ck_208 : m_ckS lkf_12 (p_TT 208) (p_INI 208) false (m_tgb s_208) p_rab (fun _ => false) (p_B 208) s_208 = true := by decide +kernel
set_option maxRecDepth 100000 in
theorem ck_209 : m_ckS lkf_12 (p_TT 209) (p_INI 209) false (m_tgb s_209) p_rab (fun _ => false) (p_B 209) s_209 = true := by decide +kernel
set_option maxRecDepth 100000 in
theorem ck_210 : m_ckS lkf_12 (p_TT 210) (p_INI 210) false (m_tgb s_210) p_rab (fun _ => false) (p_B 210) s_210 = true := by decide +kernel
set_option maxRecDepth 100000 in
theorem ck_211 : m_ckS lkf_12 (p_TT 211) (p_INI 211) false (m_tgb s_211) p_rab (fun _ => false) (p_B 211) s_211 = true := by decide +kernel
set_option maxRecDepth 100000 in
theorem ck_212 : m_ckS lkf_12 (p_TT 212) (p_INI 212) false (m_tgb s_212) p_rab (fun _ => false) (p_B 212) s_212 = true := by decide +kernel
set_option maxRecDepth 100000 in
theorem ck_213 : m_ckS lkf_12 (p_TT 213) (p_INI 213) false (m_tgb s_213) p_rab (fun _ => false) (p_B 213) s_213 = true := by decide +kernel
set_option maxRecDepth 100000 in
theorem ck_214 : m_ckS lkf_12 (p_TT 214) (p_INI 214) false (m_tgb s_214) p_rab (fun _ => false) (p_B 214) s_214 = true := by decide +kernel
set_option maxRecDepth 100000 in
theorem ck_215 : m_ckS lkf_12 (p_TT 215) (p_INI 215) false (m_tgb s_215) p_rab (fun _ => false) (p_B 215) s_215 = true := by decide +kernel
set_option maxRecDepth 100000 in
theorem ck_216 : m_ckS lkf_12 (p_TT 216) (p_INI 216) false (m_tgb s_216) p_rab (fun _ => false) (p_B 216) s_216 = true := by decide +kernel
set_option maxRecDepth 100000 in
theorem ck_217 : m_ckS lkf_12 (p_TT 217) (p_INI 217) false (m_tgb s_217) p_rab (fun _ => false) (p_B 217) s_217 = true := by decide +kernel
set_option maxRecDepth 100000 in
theorem ck_218 : m_ckS lkf_12 (p_TT 218) (p_INI 218) false (m_tgb s_218) p_rab (fun _ => false) (p_B 218) s_218 = true := by decide +kernel
set_option maxRecDepth 100000 in
theorem ck_219 : m_ckS lkf_12 (p_TT 219) (p_INI 219) false (m_tgb s_219) p_rab (fun _ => false) (p_B 219) s_219 = true := by decide +kernel
set_option maxRecDepth 100000 in
theorem ck_220 : m_ckS lkf_12 (p_TT 220) (p_INI 220) false (m_tgb s_220) p_rab (fun _ => false) (p_B 220) s_220 = true := by decide +kernel
set_option maxRecDepth 100000 in
theorem ck_221 : m_ckS lkf_12 (p_TT 221) (p_INI 221) false (m_tgb s_221) p_rab (fun _ => false) (p_B 221) s_221 = true := by decide +kernel
set_option maxRecDepth 100000 in
theorem ck_222 : m_ckS lkf_12 (p_TT 222) (p_INI 222) false (m_tgb s_222) p_rab (fun _ => false) (p_B 222) s_222 = true := by decide +kernel
set_option maxRecDepth 100000 in
theorem ck_223 : m_ckS lkf_12 (p_TT 223) (p_INI 223) false (m_tgb s_223) p_rab (fun _ => false) (p_B 223) s_223 = true := by decide +kernel
set_option maxRecDepth 100000 in
theorem ck_224 : m_ckS lkf_12 (p_TT 224) (p_INI 224) false (m_tgb s_224) p_rab (fun _ => false) (p_B 224) s_224 = true := by decide +kernel
set_option maxRecDepth 100000 in
theorem ck_225 : m_ckS lkf_12 (p_TT 225) (p_INI 225) false (m_tgb s_225) p_rab (fun _ => false) (p_B 225) s_225 = true := by decide +kernel
set_option maxRecDepth 100000 in
theorem ck_226 : m_ckS lkf_12 (p_TT 226) (p_INI 226) false (m_tgb s_226) p_rab (fun _ => false) (p_B 226) s_226 = true := by decide +kernel
set_option maxRecDepth 100000 in
theorem ck_227 : m_ckS lkf_12 (p_TT 227) (p_INI 227) false (m_tgb s_227) p_rab (fun _ => false) (p_B 227) s_227 = true := by decide +kernel
set_option maxRecDepth 100000 in
theorem ck_228 : m_ckS lkf_12 (p_TT 228) (p_INI 228) false (m_tgb s_228) p_rab (fun _ => false) (p_B 228) s_228 = true := by decide +kernel
set_option maxRecDepth 100000 in
theorem ck_229 : m_ckS lkf_12 (p_TT 229) (p_INI 229) false (m_tgb s_229) p_rab (fun _ => false) (p_B 229) s_229 = true := by decide +kernel
set_option maxRecDepth 100000 in
theorem ck_230 : m_ckS lkf_12 (p_TT 230) (p_INI 230) false (m_tgb s_230) p_rab (fun _ => false) (p_B 230) s_230 = true := by decide +kernel
set_option maxRecDepth 100000 in
theorem ck_231 : m_ckS lkf_12 (p_TT 231) (p_INI 231) false (m_tgb s_231) p_rab (fun _ => false) (p_B 231) s_231 = true := by decide +kernel
set_option maxRecDepth 100000 in
theorem ck_232 : m_ckS lkf_12 (p_TT 232) (p_INI 232) false (m_tgb s_232) p_rab (fun _ => false) (p_B 232) s_232 = true := by decide +kernel
set_option maxRecDepth 100000 in
theorem ck_233 : m_ckS lkf_12 (p_TT 233) (p_INI 233) false (m_tgb s_233) p_rab (fun _ => false) (p_B 233) s_233 = true := by decide +kernel
set_option maxRecDepth 100000 in
theorem ck_234 : m_ckS lkf_12 (p_TT 234) (p_INI 234) false (m_tgb s_234) p_rab (fun _ => false) (p_B 234) s_234 = true := by decide +kernel
set_option maxRecDepth 100000 in
theorem ck_235 : m_ckS lkf_12 (p_TT 235) (p_INI 235) false (m_tgb s_235) p_rab (fun _ => false) (p_B 235) s_235 = true := by decide +kernel
set_option maxRecDepth 100000 in
theorem ck_236 : m_ckS lkf_12 (p_TT 236) (p_INI 236) false (m_tgb s_236) p_rab (fun _ => false) (p_B 236) s_236 = true := by decide +kernel
set_option maxRecDepth 100000 in
theorem ck_237 : m_ckS lkf_12 (p_TT 237) (p_INI 237) false (m_tgb s_237) p_rab (fun _ => false) (p_B 237) s_237 = true := by decide +kernel
set_option maxRecDepth 100000 in
theorem ck_238 : m_ckS lkf_12 (p_TT 238) (p_INI 238) false (m_tgb s_238) p_rab (fun _ => false) (p_B 238) s_238 = true := by decide +kernel
set_option maxRecDepth 100000 in
theorem ck_239 : m_ckS lkf_12 (p_TT 239) (p_INI 239) false (m_tgb s_239) p_rab (fun _ => false) (p_B 239) s_239 = true := by decide +kernel
set_option maxRecDepth 100000 in
theorem ck_240 : m_ckS lkf_12 (p_TT 240) (p_INI 240) false (m_tgb s_240) p_rab (fun _ => false) (p_B 240) s_240 = true := by decide +kernel
set_option maxRecDepth 100000 in
theorem ck_241 : m_ckS lkf_12 (p_TT 241) (p_INI 241) false (m_tgb s_241) p_rab (fun _ => false) (p_B 241) s_241 = true := by decide +kernel
set_option maxRecDepth 100000 in
theorem ck_242 : m_ckS lkf_12 (p_TT 242) (p_INI 242) false (m_tgb s_242) p_rab (fun _ => false) (p_B 242) s_242 = true := by decide +kernel
set_option maxRecDepth 100000 in
theorem ck_243 : m_ckS lkf_12 (p_TT 243) (p_INI 243) false (m_tgb s_243) p_rab (fun _ => false) (p_B 243) s_243 = true := by decide +kernel
set_option maxRecDepth 100000 in
theorem ck_244 : m_ckS lkf_12 (p_TT 244) (p_INI 244) false (m_tgb s_244) p_rab (fun _ => false) (p_B 244) s_244 = true := by decide +kernel
set_option maxRecDepth 100000 in
theorem ck_245 : m_ckS lkf_12 (p_TT 245) (p_INI 245) false (m_tgb s_245) p_rab (fun _ => false) (p_B 245) s_245 = true := by decide +kernel
set_option maxRecDepth 100000 in
theorem ck_246 : m_ckS lkf_12 (p_TT 246) (p_INI 246) false (m_tgb s_246) p_rab (fun _ => false) (p_B 246) s_246 = true := by decide +kernel
