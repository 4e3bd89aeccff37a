set_option maxRecDepth 100000 in
set_option maxHeartbeats 4000000 in
theorem lc_drawer (xs : List Int32) {T : q_T} {m : am_Mm} (hm : q_Rm T m) (hC : q_Rc T m) (hK : q_Kp T) {i : Nat} {v1 : Int32} {v2 : Int32} {v3 : Int32} (h1 : xs[i + 1]? = some v1) (h2 : xs[i + 2]? = some v2) (h3 : xs[i + 3]? = some v3) (hi : i < 4000) {Q : am_Q} (k : ∀ (T' : q_T) (m' : am_Mm), q_Rm T' m' → q_Rc T' m' → q_Kp T' → am_P xs 40 L_law 1215 [some (.ref 1000202), some (.ref 0), some (.ref 153), some (.int (nI i))] [] m' Q) : am_P xs 40 L_law 176 [some (.ref 1000202), some (.ref 0), some (.ref 153), some (.int (nI i))] [] m Q := by
  refine w_aload_n (pc' := 177) at_L_176 rfl rfl rfl ?_
  refine w_aload_n (pc' := 178) at_L_177 rfl rfl rfl ?_
  refine w_iload_n (pc' := 179) at_L_178 rfl rfl ?_
  refine w_iconst (pc' := 180) 1 at_L_179 rfl ic_1 ?_
  refine w_iadd (pc' := 181) at_L_180 rfl ?_
  rw [show nI (i) + (1 : Int32) = nI (i + 1) from nI_add _ _]
  refine w_ialdR (j := i + 1) (pc' := 182) at_L_181 rfl (by decide) rfl rfl h1 (by omega) ?_
  skip
  refine w_aload_n (pc' := 183) at_L_182 rfl rfl rfl ?_
  refine w_iload_n (pc' := 184) at_L_183 rfl rfl ?_
  refine w_iconst (pc' := 185) 2 at_L_184 rfl ic_2 ?_
  refine w_iadd (pc' := 186) at_L_185 rfl ?_
  rw [show nI (i) + (2 : Int32) = nI (i + 2) from nI_add _ _]
  refine w_ialdR (j := i + 2) (pc' := 187) at_L_186 rfl (by decide) rfl rfl h2 (by omega) ?_
  skip
  refine w_aload_n (pc' := 188) at_L_187 rfl rfl rfl ?_
  refine w_iload_n (pc' := 189) at_L_188 rfl rfl ?_
  refine w_iconst (pc' := 190) 3 at_L_189 rfl ic_3 ?_
  refine w_iadd (pc' := 191) at_L_190 rfl ?_
  rw [show nI (i) + (3 : Int32) = nI (i + 3) from nI_add _ _]
  refine w_ialdR (j := i + 3) (pc' := 192) at_L_191 rfl (by decide) rfl rfl h3 (by omega) ?_
  skip
  refine w_cV3i (pc' := 195) (v_k_drawer xs hC hK.1 v1 v2 v3) (by decide) at_L_192 rfl rfl (Nat.le_of_ble_eq_true rfl) sh_0 rfl (fun m1 hm' => ?_)
  obtain ⟨hC1, hF1⟩ := hm'
  refine w_aload_n (pc' := 196) at_L_195 rfl rfl rfl ?_
  refine w_aload_n (pc' := 197) at_L_196 rfl rfl rfl ?_
  refine w_iload_n (pc' := 198) at_L_197 rfl rfl ?_
  refine w_iconst (pc' := 199) 1 at_L_198 rfl ic_1 ?_
  refine w_iadd (pc' := 200) at_L_199 rfl ?_
  rw [show nI (i) + (1 : Int32) = nI (i + 1) from nI_add _ _]
  refine w_ialdR (j := i + 1) (pc' := 201) at_L_200 rfl (by decide) rfl rfl h1 (by omega) ?_
  skip
  refine w_aload_n (pc' := 202) at_L_201 rfl rfl rfl ?_
  refine w_iload_n (pc' := 203) at_L_202 rfl rfl ?_
  refine w_iconst (pc' := 204) 2 at_L_203 rfl ic_2 ?_
  refine w_iadd (pc' := 205) at_L_204 rfl ?_
  rw [show nI (i) + (2 : Int32) = nI (i + 2) from nI_add _ _]
  refine w_ialdR (j := i + 2) (pc' := 206) at_L_205 rfl (by decide) rfl rfl h2 (by omega) ?_
  skip
  refine w_aload_n (pc' := 207) at_L_206 rfl rfl rfl ?_
  refine w_iload_n (pc' := 208) at_L_207 rfl rfl ?_
  refine w_iconst (pc' := 209) 3 at_L_208 rfl ic_3 ?_
  refine w_iadd (pc' := 210) at_L_209 rfl ?_
  rw [show nI (i) + (3 : Int32) = nI (i + 3) from nI_add _ _]
  refine w_ialdR (j := i + 3) (pc' := 211) at_L_210 rfl (by decide) rfl rfl h3 (by omega) ?_
  skip
  refine w_cV3i (pc' := 214) (v_m_drawer xs (hm.FM hF1) hK.1.1.1.1 v1 v2 v3) (by decide) at_L_211 rfl rfl (Nat.le_of_ble_eq_true rfl) sh_153 rfl (fun m2 hm' => ?_)
  obtain ⟨hm2, hG2⟩ := hm'
  refine w_ic_eq (t := 1215) (pc' := 217) at_L_214 (by decide) rfl (fun h214 => ?_) (fun h214 => ?_)
  · exact k _ _ hm2 (lw_nx hC1 hG2 (i_drawer hK v1 v2 v3)) (i_drawer hK v1 v2 v3)
  · exact absurd rfl h214
set_option maxRecDepth 100000 in
set_option maxHeartbeats 4000000 in
theorem lc_of (xs : List Int32) {T : q_T} {m : am_Mm} (hm : q_Rm T m) (hC : q_Rc T m) (hK : q_Kp T) {i : Nat} {v1 : Int32} {v2 : Int32} (h1 : xs[i + 1]? = some v1) (h2 : xs[i + 2]? = some v2) (hi : i < 4000) {Q : am_Q} (k : ∀ (T' : q_T) (m' : am_Mm), q_Rm T' m' → q_Rc T' m' → q_Kp T' → am_P xs 40 L_law 1215 [some (.ref 1000202), some (.ref 0), some (.ref 153), some (.int (nI i))] [] m' Q) : am_P xs 40 L_law 219 [some (.ref 1000202), some (.ref 0), some (.ref 153), some (.int (nI i))] [] m Q := by
  refine w_aload_n (pc' := 220) at_L_219 rfl rfl rfl ?_
  refine w_aload_n (pc' := 221) at_L_220 rfl rfl rfl ?_
  refine w_iload_n (pc' := 222) at_L_221 rfl rfl ?_
  refine w_iconst (pc' := 223) 1 at_L_222 rfl ic_1 ?_
  refine w_iadd (pc' := 224) at_L_223 rfl ?_
  rw [show nI (i) + (1 : Int32) = nI (i + 1) from nI_add _ _]
  refine w_ialdR (j := i + 1) (pc' := 225) at_L_224 rfl (by decide) rfl rfl h1 (by omega) ?_
  skip
  refine w_aload_n (pc' := 226) at_L_225 rfl rfl rfl ?_
  refine w_iload_n (pc' := 227) at_L_226 rfl rfl ?_
  refine w_iconst (pc' := 228) 2 at_L_227 rfl ic_2 ?_
  refine w_iadd (pc' := 229) at_L_228 rfl ?_
  rw [show nI (i) + (2 : Int32) = nI (i + 2) from nI_add _ _]
  refine w_ialdR (j := i + 2) (pc' := 230) at_L_229 rfl (by decide) rfl rfl h2 (by omega) ?_
  skip
  refine w_cV2i (pc' := 233) (v_k_of xs hC hK.1 v1 v2) (by decide) at_L_230 rfl rfl (Nat.le_of_ble_eq_true rfl) sh_0 rfl (fun m1 hm' => ?_)
  obtain ⟨hC1, hF1⟩ := hm'
  refine w_aload_n (pc' := 234) at_L_233 rfl rfl rfl ?_
  refine w_aload_n (pc' := 235) at_L_234 rfl rfl rfl ?_
  refine w_iload_n (pc' := 236) at_L_235 rfl rfl ?_
  refine w_iconst (pc' := 237) 1 at_L_236 rfl ic_1 ?_
  refine w_iadd (pc' := 238) at_L_237 rfl ?_
  rw [show nI (i) + (1 : Int32) = nI (i + 1) from nI_add _ _]
  refine w_ialdR (j := i + 1) (pc' := 239) at_L_238 rfl (by decide) rfl rfl h1 (by omega) ?_
  skip
  refine w_aload_n (pc' := 240) at_L_239 rfl rfl rfl ?_
  refine w_iload_n (pc' := 241) at_L_240 rfl rfl ?_
  refine w_iconst (pc' := 242) 2 at_L_241 rfl ic_2 ?_
  refine w_iadd (pc' := 243) at_L_242 rfl ?_
  rw [show nI (i) + (2 : Int32) = nI (i + 2) from nI_add _ _]
  refine w_ialdR (j := i + 2) (pc' := 244) at_L_243 rfl (by decide) rfl rfl h2 (by omega) ?_
  skip
  refine w_cV2i (pc' := 247) (v_m_of xs (hm.FM hF1) hK.1.1.1 v1 v2) (by decide) at_L_244 rfl rfl (Nat.le_of_ble_eq_true rfl) sh_153 rfl (fun m2 hm' => ?_)
  obtain ⟨hm2, hG2⟩ := hm'
  refine w_ic_eq (t := 1215) (pc' := 250) at_L_247 (by decide) rfl (fun h247 => ?_) (fun h247 => ?_)
  · exact k _ _ hm2 (lw_nx hC1 hG2 (i_of hK v1 v2)) (i_of hK v1 v2)
  · exact absurd rfl h247
set_option maxRecDepth 100000 in
set_option maxHeartbeats 4000000 in
theorem lc_sheet (xs : List Int32) {T : q_T} {m : am_Mm} (hm : q_Rm T m) (hC : q_Rc T m) (hK : q_Kp T) {i : Nat} {v1 : Int32} {v2 : Int32} (h1 : xs[i + 1]? = some v1) (h2 : xs[i + 2]? = some v2) (hi : i < 4000) {Q : am_Q} (k : ∀ (T' : q_T) (m' : am_Mm), q_Rm T' m' → q_Rc T' m' → q_Kp T' → am_P xs 40 L_law 1215 [some (.ref 1000202), some (.ref 0), some (.ref 153), some (.int (nI i))] [] m' Q) : am_P xs 40 L_law 252 [some (.ref 1000202), some (.ref 0), some (.ref 153), some (.int (nI i))] [] m Q := by
  refine w_aload_n (pc' := 253) at_L_252 rfl rfl rfl ?_
  refine w_aload_n (pc' := 254) at_L_253 rfl rfl rfl ?_
  refine w_iload_n (pc' := 255) at_L_254 rfl rfl ?_
  refine w_iconst (pc' := 256) 1 at_L_255 rfl ic_1 ?_
  refine w_iadd (pc' := 257) at_L_256 rfl ?_
  rw [show nI (i) + (1 : Int32) = nI (i + 1) from nI_add _ _]
  refine w_ialdR (j := i + 1) (pc' := 258) at_L_257 rfl (by decide) rfl rfl h1 (by omega) ?_
  skip
  refine w_aload_n (pc' := 259) at_L_258 rfl rfl rfl ?_
  refine w_iload_n (pc' := 260) at_L_259 rfl rfl ?_
  refine w_iconst (pc' := 261) 2 at_L_260 rfl ic_2 ?_
  refine w_iadd (pc' := 262) at_L_261 rfl ?_
  rw [show nI (i) + (2 : Int32) = nI (i + 2) from nI_add _ _]
  refine w_ialdR (j := i + 2) (pc' := 263) at_L_262 rfl (by decide) rfl rfl h2 (by omega) ?_
  skip
  refine w_cV2i (pc' := 266) (v_k_sheet xs hC hK.1 v1 v2) (by decide) at_L_263 rfl rfl (Nat.le_of_ble_eq_true rfl) sh_0 rfl (fun m1 hm' => ?_)
  obtain ⟨hC1, hF1⟩ := hm'
  refine w_aload_n (pc' := 267) at_L_266 rfl rfl rfl ?_
  refine w_aload_n (pc' := 268) at_L_267 rfl rfl rfl ?_
  refine w_iload_n (pc' := 269) at_L_268 rfl rfl ?_
  refine w_iconst (pc' := 270) 1 at_L_269 rfl ic_1 ?_
  refine w_iadd (pc' := 271) at_L_270 rfl ?_
  rw [show nI (i) + (1 : Int32) = nI (i + 1) from nI_add _ _]
  refine w_ialdR (j := i + 1) (pc' := 272) at_L_271 rfl (by decide) rfl rfl h1 (by omega) ?_
  skip
  refine w_aload_n (pc' := 273) at_L_272 rfl rfl rfl ?_
  refine w_iload_n (pc' := 274) at_L_273 rfl rfl ?_
  refine w_iconst (pc' := 275) 2 at_L_274 rfl ic_2 ?_
  refine w_iadd (pc' := 276) at_L_275 rfl ?_
  rw [show nI (i) + (2 : Int32) = nI (i + 2) from nI_add _ _]
  refine w_ialdR (j := i + 2) (pc' := 277) at_L_276 rfl (by decide) rfl rfl h2 (by omega) ?_
  skip
  refine w_cV2i (pc' := 280) (v_m_sheet xs (hm.FM hF1) hK.1.1.1.1 v1 v2) (by decide) at_L_277 rfl rfl (Nat.le_of_ble_eq_true rfl) sh_153 rfl (fun m2 hm' => ?_)
  obtain ⟨hm2, hG2⟩ := hm'
  refine w_ic_eq (t := 1215) (pc' := 283) at_L_280 (by decide) rfl (fun h280 => ?_) (fun h280 => ?_)
  · exact k _ _ hm2 (lw_nx hC1 hG2 (i_sheet hK v1 v2)) (i_sheet hK v1 v2)
  · exact absurd rfl h280
set_option maxRecDepth 100000 in
set_option maxHeartbeats 4000000 in
theorem lc_put (xs : List Int32) {T : q_T} {m : am_Mm} (hm : q_Rm T m) (hC : q_Rc T m) (hK : q_Kp T) {i : Nat} {v1 : Int32} {v2 : Int32} (h1 : xs[i + 1]? = some v1) (h2 : xs[i + 2]? = some v2) (hi : i < 4000) {Q : am_Q} (k : ∀ (T' : q_T) (m' : am_Mm), q_Rm T' m' → q_Rc T' m' → q_Kp T' → am_P xs 40 L_law 1215 [some (.ref 1000202), some (.ref 0), some (.ref 153), some (.int (nI i))] [] m' Q) : am_P xs 40 L_law 285 [some (.ref 1000202), some (.ref 0), some (.ref 153), some (.int (nI i))] [] m Q := by
  refine w_aload_n (pc' := 286) at_L_285 rfl rfl rfl ?_
  refine w_aload_n (pc' := 287) at_L_286 rfl rfl rfl ?_
  refine w_iload_n (pc' := 288) at_L_287 rfl rfl ?_
  refine w_iconst (pc' := 289) 1 at_L_288 rfl ic_1 ?_
  refine w_iadd (pc' := 290) at_L_289 rfl ?_
  rw [show nI (i) + (1 : Int32) = nI (i + 1) from nI_add _ _]
  refine w_ialdR (j := i + 1) (pc' := 291) at_L_290 rfl (by decide) rfl rfl h1 (by omega) ?_
  skip
  refine w_aload_n (pc' := 292) at_L_291 rfl rfl rfl ?_
  refine w_iload_n (pc' := 293) at_L_292 rfl rfl ?_
  refine w_iconst (pc' := 294) 2 at_L_293 rfl ic_2 ?_
  refine w_iadd (pc' := 295) at_L_294 rfl ?_
  rw [show nI (i) + (2 : Int32) = nI (i + 2) from nI_add _ _]
  refine w_ialdR (j := i + 2) (pc' := 296) at_L_295 rfl (by decide) rfl rfl h2 (by omega) ?_
  skip
  refine w_cV2i (pc' := 299) (v_k_put xs hC hK.1 v1 v2) (by decide) at_L_296 rfl rfl (Nat.le_of_ble_eq_true rfl) sh_0 rfl (fun m1 hm' => ?_)
  obtain ⟨hC1, hF1⟩ := hm'
  refine w_aload_n (pc' := 300) at_L_299 rfl rfl rfl ?_
  refine w_aload_n (pc' := 301) at_L_300 rfl rfl rfl ?_
  refine w_iload_n (pc' := 302) at_L_301 rfl rfl ?_
  refine w_iconst (pc' := 303) 1 at_L_302 rfl ic_1 ?_
  refine w_iadd (pc' := 304) at_L_303 rfl ?_
  rw [show nI (i) + (1 : Int32) = nI (i + 1) from nI_add _ _]
  refine w_ialdR (j := i + 1) (pc' := 305) at_L_304 rfl (by decide) rfl rfl h1 (by omega) ?_
  skip
  refine w_aload_n (pc' := 306) at_L_305 rfl rfl rfl ?_
  refine w_iload_n (pc' := 307) at_L_306 rfl rfl ?_
  refine w_iconst (pc' := 308) 2 at_L_307 rfl ic_2 ?_
  refine w_iadd (pc' := 309) at_L_308 rfl ?_
  rw [show nI (i) + (2 : Int32) = nI (i + 2) from nI_add _ _]
  refine w_ialdR (j := i + 2) (pc' := 310) at_L_309 rfl (by decide) rfl rfl h2 (by omega) ?_
  skip
  refine w_cV2i (pc' := 313) (v_m_put xs (hm.FM hF1) hK.1.1.1.1 v1 v2) (by decide) at_L_310 rfl rfl (Nat.le_of_ble_eq_true rfl) sh_153 rfl (fun m2 hm' => ?_)
  obtain ⟨hm2, hG2⟩ := hm'
  refine w_ic_eq (t := 1215) (pc' := 316) at_L_313 (by decide) rfl (fun h313 => ?_) (fun h313 => ?_)
  · exact k _ _ hm2 (lw_nx hC1 hG2 (i_put hK v1 v2)) (i_put hK v1 v2)
  · exact absurd rfl h313
set_option maxRecDepth 100000 in
set_option maxHeartbeats 4000000 in
theorem lc_anew (xs : List Int32) {T : q_T} {m : am_Mm} (hm : q_Rm T m) (hC : q_Rc T m) (hK : q_Kp T) {i : Nat} {v1 : Int32} (h1 : xs[i + 1]? = some v1) (hi : i < 4000) {Q : am_Q} (k : ∀ (T' : q_T) (m' : am_Mm), q_Rm T' m' → q_Rc T' m' → q_Kp T' → am_P xs 40 L_law 1215 [some (.ref 1000202), some (.ref 0), some (.ref 153), some (.int (nI i))] [] m' Q) : am_P xs 40 L_law 318 [some (.ref 1000202), some (.ref 0), some (.ref 153), some (.int (nI i))] [] m Q := by
  refine w_aload_n (pc' := 319) at_L_318 rfl rfl rfl ?_
  refine w_aload_n (pc' := 320) at_L_319 rfl rfl rfl ?_
  refine w_iload_n (pc' := 321) at_L_320 rfl rfl ?_
  refine w_iconst (pc' := 322) 1 at_L_321 rfl ic_1 ?_
  refine w_iadd (pc' := 323) at_L_322 rfl ?_
  rw [show nI (i) + (1 : Int32) = nI (i + 1) from nI_add _ _]
  refine w_ialdR (j := i + 1) (pc' := 324) at_L_323 rfl (by decide) rfl rfl h1 (by omega) ?_
  skip
  refine w_cV1i (pc' := 327) (v_k_anew xs hC hK.1 v1) (by decide) at_L_324 rfl rfl (Nat.le_of_ble_eq_true rfl) sh_0 rfl (fun m1 hm' => ?_)
  obtain ⟨hC1, hF1⟩ := hm'
  refine w_aload_n (pc' := 328) at_L_327 rfl rfl rfl ?_
  refine w_aload_n (pc' := 329) at_L_328 rfl rfl rfl ?_
  refine w_iload_n (pc' := 330) at_L_329 rfl rfl ?_
  refine w_iconst (pc' := 331) 1 at_L_330 rfl ic_1 ?_
  refine w_iadd (pc' := 332) at_L_331 rfl ?_
  rw [show nI (i) + (1 : Int32) = nI (i + 1) from nI_add _ _]
  refine w_ialdR (j := i + 1) (pc' := 333) at_L_332 rfl (by decide) rfl rfl h1 (by omega) ?_
  skip
  refine w_cV1i (pc' := 336) (v_m_anew xs (hm.FM hF1) hK.1.1.1.1 v1) (by decide) at_L_333 rfl rfl (Nat.le_of_ble_eq_true rfl) sh_153 rfl (fun m2 hm' => ?_)
  obtain ⟨hm2, hG2⟩ := hm'
  refine w_ic_eq (t := 1215) (pc' := 339) at_L_336 (by decide) rfl (fun h336 => ?_) (fun h336 => ?_)
  · exact k _ _ hm2 (lw_nx hC1 hG2 (i_anew hK v1)) (i_anew hK v1)
  · exact absurd rfl h336
set_option maxRecDepth 100000 in
set_option maxHeartbeats 4000000 in
theorem lc_mark (xs : List Int32) {T : q_T} {m : am_Mm} (hm : q_Rm T m) (hC : q_Rc T m) (hK : q_Kp T) {i : Nat} {v1 : Int32} {v2 : Int32} (h1 : xs[i + 1]? = some v1) (h2 : xs[i + 2]? = some v2) (hi : i < 4000) {Q : am_Q} (k : ∀ (T' : q_T) (m' : am_Mm), q_Rm T' m' → q_Rc T' m' → q_Kp T' → am_P xs 40 L_law 1215 [some (.ref 1000202), some (.ref 0), some (.ref 153), some (.int (nI i))] [] m' Q) : am_P xs 40 L_law 341 [some (.ref 1000202), some (.ref 0), some (.ref 153), some (.int (nI i))] [] m Q := by
  refine w_aload_n (pc' := 342) at_L_341 rfl rfl rfl ?_
  refine w_aload_n (pc' := 343) at_L_342 rfl rfl rfl ?_
  refine w_iload_n (pc' := 344) at_L_343 rfl rfl ?_
  refine w_iconst (pc' := 345) 1 at_L_344 rfl ic_1 ?_
  refine w_iadd (pc' := 346) at_L_345 rfl ?_
  rw [show nI (i) + (1 : Int32) = nI (i + 1) from nI_add _ _]
  refine w_ialdR (j := i + 1) (pc' := 347) at_L_346 rfl (by decide) rfl rfl h1 (by omega) ?_
  skip
  refine w_aload_n (pc' := 348) at_L_347 rfl rfl rfl ?_
  refine w_iload_n (pc' := 349) at_L_348 rfl rfl ?_
  refine w_iconst (pc' := 350) 2 at_L_349 rfl ic_2 ?_
  refine w_iadd (pc' := 351) at_L_350 rfl ?_
  rw [show nI (i) + (2 : Int32) = nI (i + 2) from nI_add _ _]
  refine w_ialdR (j := i + 2) (pc' := 352) at_L_351 rfl (by decide) rfl rfl h2 (by omega) ?_
  skip
  refine w_cV2i (pc' := 355) (v_k_mark xs hC hK.1 v1 v2) (by decide) at_L_352 rfl rfl (Nat.le_of_ble_eq_true rfl) sh_0 rfl (fun m1 hm' => ?_)
  obtain ⟨hC1, hF1⟩ := hm'
  refine w_aload_n (pc' := 356) at_L_355 rfl rfl rfl ?_
  refine w_aload_n (pc' := 357) at_L_356 rfl rfl rfl ?_
  refine w_iload_n (pc' := 358) at_L_357 rfl rfl ?_
  refine w_iconst (pc' := 359) 1 at_L_358 rfl ic_1 ?_
  refine w_iadd (pc' := 360) at_L_359 rfl ?_
  rw [show nI (i) + (1 : Int32) = nI (i + 1) from nI_add _ _]
  refine w_ialdR (j := i + 1) (pc' := 361) at_L_360 rfl (by decide) rfl rfl h1 (by omega) ?_
  skip
  refine w_aload_n (pc' := 362) at_L_361 rfl rfl rfl ?_
  refine w_iload_n (pc' := 363) at_L_362 rfl rfl ?_
  refine w_iconst (pc' := 364) 2 at_L_363 rfl ic_2 ?_
  refine w_iadd (pc' := 365) at_L_364 rfl ?_
  rw [show nI (i) + (2 : Int32) = nI (i + 2) from nI_add _ _]
  refine w_ialdR (j := i + 2) (pc' := 366) at_L_365 rfl (by decide) rfl rfl h2 (by omega) ?_
  skip
  refine w_cV2i (pc' := 369) (v_m_mark xs (hm.FM hF1) hK.1.1.1.1 v1 v2) (by decide) at_L_366 rfl rfl (Nat.le_of_ble_eq_true rfl) sh_153 rfl (fun m2 hm' => ?_)
  obtain ⟨hm2, hG2⟩ := hm'
  refine w_ic_eq (t := 1215) (pc' := 372) at_L_369 (by decide) rfl (fun h369 => ?_) (fun h369 => ?_)
  · exact k _ _ hm2 (lw_nx hC1 hG2 (i_mark hK v1 v2)) (i_mark hK v1 v2)
  · exact absurd rfl h369
set_option maxRecDepth 100000 in
set_option maxHeartbeats 4000000 in
theorem lc_row (xs : List Int32) {T : q_T} {m : am_Mm} (hm : q_Rm T m) (hC : q_Rc T m) (hK : q_Kp T) {i : Nat} {v1 : Int32} {v2 : Int32} {v3 : Int32} (h1 : xs[i + 1]? = some v1) (h2 : xs[i + 2]? = some v2) (h3 : xs[i + 3]? = some v3) (hi : i < 4000) {Q : am_Q} (k : ∀ (T' : q_T) (m' : am_Mm), q_Rm T' m' → q_Rc T' m' → q_Kp T' → am_P xs 40 L_law 1215 [some (.ref 1000202), some (.ref 0), some (.ref 153), some (.int (nI i))] [] m' Q) : am_P xs 40 L_law 374 [some (.ref 1000202), some (.ref 0), some (.ref 153), some (.int (nI i))] [] m Q := by
  refine w_aload_n (pc' := 375) at_L_374 rfl rfl rfl ?_
  refine w_aload_n (pc' := 376) at_L_375 rfl rfl rfl ?_
  refine w_iload_n (pc' := 377) at_L_376 rfl rfl ?_
  refine w_iconst (pc' := 378) 1 at_L_377 rfl ic_1 ?_
  refine w_iadd (pc' := 379) at_L_378 rfl ?_
  rw [show nI (i) + (1 : Int32) = nI (i + 1) from nI_add _ _]
  refine w_ialdR (j := i + 1) (pc' := 380) at_L_379 rfl (by decide) rfl rfl h1 (by omega) ?_
  skip
  refine w_aload_n (pc' := 381) at_L_380 rfl rfl rfl ?_
  refine w_iload_n (pc' := 382) at_L_381 rfl rfl ?_
  refine w_iconst (pc' := 383) 2 at_L_382 rfl ic_2 ?_
  refine w_iadd (pc' := 384) at_L_383 rfl ?_
  rw [show nI (i) + (2 : Int32) = nI (i + 2) from nI_add _ _]
  refine w_ialdR (j := i + 2) (pc' := 385) at_L_384 rfl (by decide) rfl rfl h2 (by omega) ?_
  skip
  refine w_aload_n (pc' := 386) at_L_385 rfl rfl rfl ?_
  refine w_iload_n (pc' := 387) at_L_386 rfl rfl ?_
  refine w_iconst (pc' := 388) 3 at_L_387 rfl ic_3 ?_
  refine w_iadd (pc' := 389) at_L_388 rfl ?_
  rw [show nI (i) + (3 : Int32) = nI (i + 3) from nI_add _ _]
  refine w_ialdR (j := i + 3) (pc' := 390) at_L_389 rfl (by decide) rfl rfl h3 (by omega) ?_
  skip
  refine w_cV3i (pc' := 393) (v_k_row xs hC hK.1 v1 v2 v3) (by decide) at_L_390 rfl rfl (Nat.le_of_ble_eq_true rfl) sh_0 rfl (fun m1 hm' => ?_)
  obtain ⟨hC1, hF1⟩ := hm'
  refine w_aload_n (pc' := 394) at_L_393 rfl rfl rfl ?_
  refine w_aload_n (pc' := 395) at_L_394 rfl rfl rfl ?_
  refine w_iload_n (pc' := 396) at_L_395 rfl rfl ?_
  refine w_iconst (pc' := 397) 1 at_L_396 rfl ic_1 ?_
  refine w_iadd (pc' := 398) at_L_397 rfl ?_
  rw [show nI (i) + (1 : Int32) = nI (i + 1) from nI_add _ _]
  refine w_ialdR (j := i + 1) (pc' := 399) at_L_398 rfl (by decide) rfl rfl h1 (by omega) ?_
  skip
  refine w_aload_n (pc' := 400) at_L_399 rfl rfl rfl ?_
  refine w_iload_n (pc' := 401) at_L_400 rfl rfl ?_
  refine w_iconst (pc' := 402) 2 at_L_401 rfl ic_2 ?_
  refine w_iadd (pc' := 403) at_L_402 rfl ?_
  rw [show nI (i) + (2 : Int32) = nI (i + 2) from nI_add _ _]
  refine w_ialdR (j := i + 2) (pc' := 404) at_L_403 rfl (by decide) rfl rfl h2 (by omega) ?_
  skip
  refine w_aload_n (pc' := 405) at_L_404 rfl rfl rfl ?_
  refine w_iload_n (pc' := 406) at_L_405 rfl rfl ?_
  refine w_iconst (pc' := 407) 3 at_L_406 rfl ic_3 ?_
  refine w_iadd (pc' := 408) at_L_407 rfl ?_
  rw [show nI (i) + (3 : Int32) = nI (i + 3) from nI_add _ _]
  refine w_ialdR (j := i + 3) (pc' := 409) at_L_408 rfl (by decide) rfl rfl h3 (by omega) ?_
  skip
  refine w_cV3i (pc' := 412) (v_m_row xs (hm.FM hF1) hK.1.1.1.1 v1 v2 v3) (by decide) at_L_409 rfl rfl (Nat.le_of_ble_eq_true rfl) sh_153 rfl (fun m2 hm' => ?_)
  obtain ⟨hm2, hG2⟩ := hm'
  refine w_ic_eq (t := 1215) (pc' := 415) at_L_412 (by decide) rfl (fun h412 => ?_) (fun h412 => ?_)
  · exact k _ _ hm2 (lw_nx hC1 hG2 (i_row hK v1 v2 v3)) (i_row hK v1 v2 v3)
  · exact absurd rfl h412
set_option maxRecDepth 100000 in
set_option maxHeartbeats 4000000 in
theorem lc_feed (xs : List Int32) {T : q_T} {m : am_Mm} (hm : q_Rm T m) (hC : q_Rc T m) (hK : q_Kp T) {i : Nat} {v1 : Int32} (h1 : xs[i + 1]? = some v1) (hi : i < 4000) {Q : am_Q} (k : ∀ (T' : q_T) (m' : am_Mm), q_Rm T' m' → q_Rc T' m' → q_Kp T' → am_P xs 40 L_law 1215 [some (.ref 1000202), some (.ref 0), some (.ref 153), some (.int (nI i))] [] m' Q) : am_P xs 40 L_law 417 [some (.ref 1000202), some (.ref 0), some (.ref 153), some (.int (nI i))] [] m Q := by
  refine w_aload_n (pc' := 418) at_L_417 rfl rfl rfl ?_
  refine w_aload_n (pc' := 419) at_L_418 rfl rfl rfl ?_
  refine w_iload_n (pc' := 420) at_L_419 rfl rfl ?_
  refine w_iconst (pc' := 421) 1 at_L_420 rfl ic_1 ?_
  refine w_iadd (pc' := 422) at_L_421 rfl ?_
  rw [show nI (i) + (1 : Int32) = nI (i + 1) from nI_add _ _]
  refine w_ialdR (j := i + 1) (pc' := 423) at_L_422 rfl (by decide) rfl rfl h1 (by omega) ?_
  skip
  refine w_cV1i (pc' := 426) (v_k_feed xs hC hK.1 v1) (by decide) at_L_423 rfl rfl (Nat.le_of_ble_eq_true rfl) sh_0 rfl (fun m1 hm' => ?_)
  obtain ⟨hC1, hF1⟩ := hm'
  refine w_aload_n (pc' := 427) at_L_426 rfl rfl rfl ?_
  refine w_aload_n (pc' := 428) at_L_427 rfl rfl rfl ?_
  refine w_iload_n (pc' := 429) at_L_428 rfl rfl ?_
  refine w_iconst (pc' := 430) 1 at_L_429 rfl ic_1 ?_
  refine w_iadd (pc' := 431) at_L_430 rfl ?_
  rw [show nI (i) + (1 : Int32) = nI (i + 1) from nI_add _ _]
  refine w_ialdR (j := i + 1) (pc' := 432) at_L_431 rfl (by decide) rfl rfl h1 (by omega) ?_
  skip
  refine w_cV1i (pc' := 435) (v_m_feed xs (hm.FM hF1) hK.1.1.1.1 v1) (by decide) at_L_432 rfl rfl (Nat.le_of_ble_eq_true rfl) sh_153 rfl (fun m2 hm' => ?_)
  obtain ⟨hm2, hG2⟩ := hm'
  refine w_ic_eq (t := 1215) (pc' := 438) at_L_435 (by decide) rfl (fun h435 => ?_) (fun h435 => ?_)
  · exact k _ _ hm2 (lw_nx hC1 hG2 (i_feed hK v1)) (i_feed hK v1)
  · exact absurd rfl h435
set_option maxRecDepth 100000 in
set_option maxHeartbeats 4000000 in
theorem lc_office (xs : List Int32) {T : q_T} {m : am_Mm} (hm : q_Rm T m) (hC : q_Rc T m) (hK : q_Kp T) {i : Nat} (hi : i < 4000) {Q : am_Q} (k : ∀ (T' : q_T) (m' : am_Mm), q_Rm T' m' → q_Rc T' m' → q_Kp T' → am_P xs 40 L_law 1215 [some (.ref 1000202), some (.ref 0), some (.ref 153), some (.int (nI i))] [] m' Q) : am_P xs 40 L_law 440 [some (.ref 1000202), some (.ref 0), some (.ref 153), some (.int (nI i))] [] m Q := by
  refine w_aload_n (pc' := 441) at_L_440 rfl rfl rfl ?_
  refine w_cV0i (pc' := 444) (v_k_office xs hC hK.1) (by decide) at_L_441 rfl rfl (Nat.le_of_ble_eq_true rfl) sh_0 rfl (fun m1 hm' => ?_)
  obtain ⟨hC1, hF1⟩ := hm'
  refine w_aload_n (pc' := 445) at_L_444 rfl rfl rfl ?_
  refine w_cV0i (pc' := 448) (v_m_office xs (hm.FM hF1) hK.1.1.1.1) (by decide) at_L_445 rfl rfl (Nat.le_of_ble_eq_true rfl) sh_153 rfl (fun m2 hm' => ?_)
  obtain ⟨hm2, hG2⟩ := hm'
  refine w_ic_eq (t := 1215) (pc' := 451) at_L_448 (by decide) rfl (fun h448 => ?_) (fun h448 => ?_)
  · exact k _ _ hm2 (lw_nx hC1 hG2 (i_office hK)) (i_office hK)
  · exact absurd rfl h448
set_option maxRecDepth 100000 in
set_option maxHeartbeats 4000000 in
theorem lc_told (xs : List Int32) {T : q_T} {m : am_Mm} (hm : q_Rm T m) (hC : q_Rc T m) (hK : q_Kp T) {i : Nat} {v1 : Int32} (h1 : xs[i + 1]? = some v1) (hi : i < 4000) {Q : am_Q} (k : ∀ (T' : q_T) (m' : am_Mm), q_Rm T' m' → q_Rc T' m' → q_Kp T' → am_P xs 40 L_law 1215 [some (.ref 1000202), some (.ref 0), some (.ref 153), some (.int (nI i))] [] m' Q) : am_P xs 40 L_law 453 [some (.ref 1000202), some (.ref 0), some (.ref 153), some (.int (nI i))] [] m Q := by
  refine w_aload_n (pc' := 454) at_L_453 rfl rfl rfl ?_
  refine w_aload_n (pc' := 455) at_L_454 rfl rfl rfl ?_
  refine w_iload_n (pc' := 456) at_L_455 rfl rfl ?_
  refine w_iconst (pc' := 457) 1 at_L_456 rfl ic_1 ?_
  refine w_iadd (pc' := 458) at_L_457 rfl ?_
  rw [show nI (i) + (1 : Int32) = nI (i + 1) from nI_add _ _]
  refine w_ialdR (j := i + 1) (pc' := 459) at_L_458 rfl (by decide) rfl rfl h1 (by omega) ?_
  skip
  refine w_cV1i (pc' := 462) (v_k_told xs hC hK.1 v1) (by decide) at_L_459 rfl rfl (Nat.le_of_ble_eq_true rfl) sh_0 rfl (fun m1 hm' => ?_)
  obtain ⟨hC1, hF1⟩ := hm'
  refine w_aload_n (pc' := 463) at_L_462 rfl rfl rfl ?_
  refine w_aload_n (pc' := 464) at_L_463 rfl rfl rfl ?_
  refine w_iload_n (pc' := 465) at_L_464 rfl rfl ?_
  refine w_iconst (pc' := 466) 1 at_L_465 rfl ic_1 ?_
  refine w_iadd (pc' := 467) at_L_466 rfl ?_
  rw [show nI (i) + (1 : Int32) = nI (i + 1) from nI_add _ _]
  refine w_ialdR (j := i + 1) (pc' := 468) at_L_467 rfl (by decide) rfl rfl h1 (by omega) ?_
  skip
  refine w_cV1i (pc' := 471) (v_m_told xs (hm.FM hF1) hK.1.1.1 v1) (by decide) at_L_468 rfl rfl (Nat.le_of_ble_eq_true rfl) sh_153 rfl (fun m2 hm' => ?_)
  obtain ⟨hm2, hG2⟩ := hm'
  refine w_ic_eq (t := 1215) (pc' := 474) at_L_471 (by decide) rfl (fun h471 => ?_) (fun h471 => ?_)
  · exact k _ _ hm2 (lw_nx hC1 hG2 (i_told hK v1)) (i_told hK v1)
  · exact absurd rfl h471
set_option maxRecDepth 100000 in
set_option maxHeartbeats 4000000 in
theorem lc_pass (xs : List Int32) {T : q_T} {m : am_Mm} (hm : q_Rm T m) (hC : q_Rc T m) (hK : q_Kp T) {i : Nat} {v1 : Int32} (h1 : xs[i + 1]? = some v1) (hi : i < 4000) {Q : am_Q} (k : ∀ (T' : q_T) (m' : am_Mm), q_Rm T' m' → q_Rc T' m' → q_Kp T' → am_P xs 40 L_law 1215 [some (.ref 1000202), some (.ref 0), some (.ref 153), some (.int (nI i))] [] m' Q) : am_P xs 40 L_law 476 [some (.ref 1000202), some (.ref 0), some (.ref 153), some (.int (nI i))] [] m Q := by
  refine w_aload_n (pc' := 477) at_L_476 rfl rfl rfl ?_
  refine w_aload_n (pc' := 478) at_L_477 rfl rfl rfl ?_
  refine w_iload_n (pc' := 479) at_L_478 rfl rfl ?_
  refine w_iconst (pc' := 480) 1 at_L_479 rfl ic_1 ?_
  refine w_iadd (pc' := 481) at_L_480 rfl ?_
  rw [show nI (i) + (1 : Int32) = nI (i + 1) from nI_add _ _]
  refine w_ialdR (j := i + 1) (pc' := 482) at_L_481 rfl (by decide) rfl rfl h1 (by omega) ?_
  skip
  refine w_cV1i (pc' := 485) (v_k_pass xs hC hK.1 v1) (by decide) at_L_482 rfl rfl (Nat.le_of_ble_eq_true rfl) sh_0 rfl (fun m1 hm' => ?_)
  obtain ⟨hC1, hF1⟩ := hm'
  refine w_aload_n (pc' := 486) at_L_485 rfl rfl rfl ?_
  refine w_aload_n (pc' := 487) at_L_486 rfl rfl rfl ?_
  refine w_iload_n (pc' := 488) at_L_487 rfl rfl ?_
  refine w_iconst (pc' := 489) 1 at_L_488 rfl ic_1 ?_
  refine w_iadd (pc' := 490) at_L_489 rfl ?_
  rw [show nI (i) + (1 : Int32) = nI (i + 1) from nI_add _ _]
  refine w_ialdR (j := i + 1) (pc' := 491) at_L_490 rfl (by decide) rfl rfl h1 (by omega) ?_
  skip
  refine w_cV1i (pc' := 494) (v_m_pass xs (hm.FM hF1) hK.1.1.1 v1) (by decide) at_L_491 rfl rfl (Nat.le_of_ble_eq_true rfl) sh_153 rfl (fun m2 hm' => ?_)
  obtain ⟨hm2, hG2⟩ := hm'
  refine w_ic_eq (t := 1215) (pc' := 497) at_L_494 (by decide) rfl (fun h494 => ?_) (fun h494 => ?_)
  · exact k _ _ hm2 (lw_nx hC1 hG2 (i_pass hK v1)) (i_pass hK v1)
  · exact absurd rfl h494
set_option maxRecDepth 100000 in
set_option maxHeartbeats 4000000 in
theorem lc_on (xs : List Int32) {T : q_T} {m : am_Mm} (hm : q_Rm T m) (hC : q_Rc T m) (hK : q_Kp T) {i : Nat} {v1 : Int32} {v2 : Int32} (h1 : xs[i + 1]? = some v1) (h2 : xs[i + 2]? = some v2) (hi : i < 4000) {Q : am_Q} (k : ∀ (T' : q_T) (m' : am_Mm), q_Rm T' m' → q_Rc T' m' → q_Kp T' → am_P xs 40 L_law 1215 [some (.ref 1000202), some (.ref 0), some (.ref 153), some (.int (nI i))] [] m' Q) : am_P xs 40 L_law 499 [some (.ref 1000202), some (.ref 0), some (.ref 153), some (.int (nI i))] [] m Q := by
  refine w_aload_n (pc' := 500) at_L_499 rfl rfl rfl ?_
  refine w_aload_n (pc' := 501) at_L_500 rfl rfl rfl ?_
  refine w_iload_n (pc' := 502) at_L_501 rfl rfl ?_
  refine w_iconst (pc' := 503) 1 at_L_502 rfl ic_1 ?_
  refine w_iadd (pc' := 504) at_L_503 rfl ?_
  rw [show nI (i) + (1 : Int32) = nI (i + 1) from nI_add _ _]
  refine w_ialdR (j := i + 1) (pc' := 505) at_L_504 rfl (by decide) rfl rfl h1 (by omega) ?_
  skip
  refine w_aload_n (pc' := 506) at_L_505 rfl rfl rfl ?_
  refine w_iload_n (pc' := 507) at_L_506 rfl rfl ?_
  refine w_iconst (pc' := 508) 2 at_L_507 rfl ic_2 ?_
  refine w_iadd (pc' := 509) at_L_508 rfl ?_
  rw [show nI (i) + (2 : Int32) = nI (i + 2) from nI_add _ _]
  refine w_ialdR (j := i + 2) (pc' := 510) at_L_509 rfl (by decide) rfl rfl h2 (by omega) ?_
  skip
  refine w_cV2i (pc' := 513) (v_k_on xs hC hK.1 v1 v2) (by decide) at_L_510 rfl rfl (Nat.le_of_ble_eq_true rfl) sh_0 rfl (fun m1 hm' => ?_)
  obtain ⟨hC1, hF1⟩ := hm'
  refine w_aload_n (pc' := 514) at_L_513 rfl rfl rfl ?_
  refine w_aload_n (pc' := 515) at_L_514 rfl rfl rfl ?_
  refine w_iload_n (pc' := 516) at_L_515 rfl rfl ?_
  refine w_iconst (pc' := 517) 1 at_L_516 rfl ic_1 ?_
  refine w_iadd (pc' := 518) at_L_517 rfl ?_
  rw [show nI (i) + (1 : Int32) = nI (i + 1) from nI_add _ _]
  refine w_ialdR (j := i + 1) (pc' := 519) at_L_518 rfl (by decide) rfl rfl h1 (by omega) ?_
  skip
  refine w_aload_n (pc' := 520) at_L_519 rfl rfl rfl ?_
  refine w_iload_n (pc' := 521) at_L_520 rfl rfl ?_
  refine w_iconst (pc' := 522) 2 at_L_521 rfl ic_2 ?_
  refine w_iadd (pc' := 523) at_L_522 rfl ?_
  rw [show nI (i) + (2 : Int32) = nI (i + 2) from nI_add _ _]
  refine w_ialdR (j := i + 2) (pc' := 524) at_L_523 rfl (by decide) rfl rfl h2 (by omega) ?_
  skip
  refine w_cV2i (pc' := 527) (v_m_on xs (hm.FM hF1) hK.1.1.1 v1 v2) (by decide) at_L_524 rfl rfl (Nat.le_of_ble_eq_true rfl) sh_153 rfl (fun m2 hm' => ?_)
  obtain ⟨hm2, hG2⟩ := hm'
  refine w_ic_eq (t := 1215) (pc' := 530) at_L_527 (by decide) rfl (fun h527 => ?_) (fun h527 => ?_)
  · exact k _ _ hm2 (lw_nx hC1 hG2 (i_on hK v1 v2)) (i_on hK v1 v2)
  · exact absurd rfl h527
set_option maxRecDepth 100000 in
set_option maxHeartbeats 4000000 in
theorem lc_best (xs : List Int32) {T : q_T} {m : am_Mm} (hm : q_Rm T m) (hC : q_Rc T m) (hK : q_Kp T) {i : Nat} {v1 : Int32} {v2 : Int32} (h1 : xs[i + 1]? = some v1) (h2 : xs[i + 2]? = some v2) (hi : i < 4000) {Q : am_Q} (k : ∀ (T' : q_T) (m' : am_Mm), q_Rm T' m' → q_Rc T' m' → q_Kp T' → am_P xs 40 L_law 1215 [some (.ref 1000202), some (.ref 0), some (.ref 153), some (.int (nI i))] [] m' Q) : am_P xs 40 L_law 532 [some (.ref 1000202), some (.ref 0), some (.ref 153), some (.int (nI i))] [] m Q := by
  refine w_aload_n (pc' := 533) at_L_532 rfl rfl rfl ?_
  refine w_aload_n (pc' := 534) at_L_533 rfl rfl rfl ?_
  refine w_iload_n (pc' := 535) at_L_534 rfl rfl ?_
  refine w_iconst (pc' := 536) 1 at_L_535 rfl ic_1 ?_
  refine w_iadd (pc' := 537) at_L_536 rfl ?_
  rw [show nI (i) + (1 : Int32) = nI (i + 1) from nI_add _ _]
  refine w_ialdR (j := i + 1) (pc' := 538) at_L_537 rfl (by decide) rfl rfl h1 (by omega) ?_
  skip
  refine w_aload_n (pc' := 539) at_L_538 rfl rfl rfl ?_
  refine w_iload_n (pc' := 540) at_L_539 rfl rfl ?_
  refine w_iconst (pc' := 541) 2 at_L_540 rfl ic_2 ?_
  refine w_iadd (pc' := 542) at_L_541 rfl ?_
  rw [show nI (i) + (2 : Int32) = nI (i + 2) from nI_add _ _]
  refine w_ialdR (j := i + 2) (pc' := 543) at_L_542 rfl (by decide) rfl rfl h2 (by omega) ?_
  skip
  refine w_cV2i (pc' := 546) (v_k_best xs hC hK.1 v1 v2) (by decide) at_L_543 rfl rfl (Nat.le_of_ble_eq_true rfl) sh_0 rfl (fun m1 hm' => ?_)
  obtain ⟨hC1, hF1⟩ := hm'
  refine w_aload_n (pc' := 547) at_L_546 rfl rfl rfl ?_
  refine w_aload_n (pc' := 548) at_L_547 rfl rfl rfl ?_
  refine w_iload_n (pc' := 549) at_L_548 rfl rfl ?_
  refine w_iconst (pc' := 550) 1 at_L_549 rfl ic_1 ?_
  refine w_iadd (pc' := 551) at_L_550 rfl ?_
  rw [show nI (i) + (1 : Int32) = nI (i + 1) from nI_add _ _]
  refine w_ialdR (j := i + 1) (pc' := 552) at_L_551 rfl (by decide) rfl rfl h1 (by omega) ?_
  skip
  refine w_aload_n (pc' := 553) at_L_552 rfl rfl rfl ?_
  refine w_iload_n (pc' := 554) at_L_553 rfl rfl ?_
  refine w_iconst (pc' := 555) 2 at_L_554 rfl ic_2 ?_
  refine w_iadd (pc' := 556) at_L_555 rfl ?_
  rw [show nI (i) + (2 : Int32) = nI (i + 2) from nI_add _ _]
  refine w_ialdR (j := i + 2) (pc' := 557) at_L_556 rfl (by decide) rfl rfl h2 (by omega) ?_
  skip
  refine w_cV2i (pc' := 560) (v_m_best xs (hm.FM hF1) hK.1.1.1 v1 v2) (by decide) at_L_557 rfl rfl (Nat.le_of_ble_eq_true rfl) sh_153 rfl (fun m2 hm' => ?_)
  obtain ⟨hm2, hG2⟩ := hm'
  refine w_ic_eq (t := 1215) (pc' := 563) at_L_560 (by decide) rfl (fun h560 => ?_) (fun h560 => ?_)
  · exact k _ _ hm2 (lw_nx hC1 hG2 (i_best hK v1 v2)) (i_best hK v1 v2)
  · exact absurd rfl h560
set_option maxRecDepth 100000 in
set_option maxHeartbeats 4000000 in
theorem lc_see (xs : List Int32) {T : q_T} {m : am_Mm} (hm : q_Rm T m) (hC : q_Rc T m) (hK : q_Kp T) {i : Nat} {v1 : Int32} {v2 : Int32} {v3 : Int32} (h1 : xs[i + 1]? = some v1) (h2 : xs[i + 2]? = some v2) (h3 : xs[i + 3]? = some v3) (hi : i < 4000) {Q : am_Q} (k : ∀ (T' : q_T) (m' : am_Mm), q_Rm T' m' → q_Rc T' m' → q_Kp T' → am_P xs 40 L_law 1215 [some (.ref 1000202), some (.ref 0), some (.ref 153), some (.int (nI i))] [] m' Q) : am_P xs 40 L_law 565 [some (.ref 1000202), some (.ref 0), some (.ref 153), some (.int (nI i))] [] m Q := by
  refine w_aload_n (pc' := 566) at_L_565 rfl rfl rfl ?_
  refine w_aload_n (pc' := 567) at_L_566 rfl rfl rfl ?_
  refine w_iload_n (pc' := 568) at_L_567 rfl rfl ?_
  refine w_iconst (pc' := 569) 1 at_L_568 rfl ic_1 ?_
  refine w_iadd (pc' := 570) at_L_569 rfl ?_
  rw [show nI (i) + (1 : Int32) = nI (i + 1) from nI_add _ _]
  refine w_ialdR (j := i + 1) (pc' := 571) at_L_570 rfl (by decide) rfl rfl h1 (by omega) ?_
  skip
  refine w_aload_n (pc' := 572) at_L_571 rfl rfl rfl ?_
  refine w_iload_n (pc' := 573) at_L_572 rfl rfl ?_
  refine w_iconst (pc' := 574) 2 at_L_573 rfl ic_2 ?_
  refine w_iadd (pc' := 575) at_L_574 rfl ?_
  rw [show nI (i) + (2 : Int32) = nI (i + 2) from nI_add _ _]
  refine w_ialdR (j := i + 2) (pc' := 576) at_L_575 rfl (by decide) rfl rfl h2 (by omega) ?_
  skip
  refine w_aload_n (pc' := 577) at_L_576 rfl rfl rfl ?_
  refine w_iload_n (pc' := 578) at_L_577 rfl rfl ?_
  refine w_iconst (pc' := 579) 3 at_L_578 rfl ic_3 ?_
  refine w_iadd (pc' := 580) at_L_579 rfl ?_
  rw [show nI (i) + (3 : Int32) = nI (i + 3) from nI_add _ _]
  refine w_ialdR (j := i + 3) (pc' := 581) at_L_580 rfl (by decide) rfl rfl h3 (by omega) ?_
  skip
  refine w_cV3i (pc' := 584) (v_k_see xs hC hK.1 v1 v2 v3) (by decide) at_L_581 rfl rfl (Nat.le_of_ble_eq_true rfl) sh_0 rfl (fun m1 hm' => ?_)
  obtain ⟨hC1, hF1⟩ := hm'
  refine w_aload_n (pc' := 585) at_L_584 rfl rfl rfl ?_
  refine w_aload_n (pc' := 586) at_L_585 rfl rfl rfl ?_
  refine w_iload_n (pc' := 587) at_L_586 rfl rfl ?_
  refine w_iconst (pc' := 588) 1 at_L_587 rfl ic_1 ?_
  refine w_iadd (pc' := 589) at_L_588 rfl ?_
  rw [show nI (i) + (1 : Int32) = nI (i + 1) from nI_add _ _]
  refine w_ialdR (j := i + 1) (pc' := 590) at_L_589 rfl (by decide) rfl rfl h1 (by omega) ?_
  skip
  refine w_aload_n (pc' := 591) at_L_590 rfl rfl rfl ?_
  refine w_iload_n (pc' := 592) at_L_591 rfl rfl ?_
  refine w_iconst (pc' := 593) 2 at_L_592 rfl ic_2 ?_
  refine w_iadd (pc' := 594) at_L_593 rfl ?_
  rw [show nI (i) + (2 : Int32) = nI (i + 2) from nI_add _ _]
  refine w_ialdR (j := i + 2) (pc' := 595) at_L_594 rfl (by decide) rfl rfl h2 (by omega) ?_
  skip
  refine w_aload_n (pc' := 596) at_L_595 rfl rfl rfl ?_
  refine w_iload_n (pc' := 597) at_L_596 rfl rfl ?_
  refine w_iconst (pc' := 598) 3 at_L_597 rfl ic_3 ?_
  refine w_iadd (pc' := 599) at_L_598 rfl ?_
  rw [show nI (i) + (3 : Int32) = nI (i + 3) from nI_add _ _]
  refine w_ialdR (j := i + 3) (pc' := 600) at_L_599 rfl (by decide) rfl rfl h3 (by omega) ?_
  skip
  refine w_cV3i (pc' := 603) (v_m_see xs (hm.FM hF1) hK.1.1.1.1 v1 v2 v3) (by decide) at_L_600 rfl rfl (Nat.le_of_ble_eq_true rfl) sh_153 rfl (fun m2 hm' => ?_)
  obtain ⟨hm2, hG2⟩ := hm'
  refine w_ic_eq (t := 1215) (pc' := 606) at_L_603 (by decide) rfl (fun h603 => ?_) (fun h603 => ?_)
  · exact k _ _ hm2 (lw_nx hC1 hG2 (i_see hK v1 v2 v3)) (i_see hK v1 v2 v3)
  · exact absurd rfl h603
set_option maxRecDepth 100000 in
set_option maxHeartbeats 4000000 in
theorem lc_can (xs : List Int32) {T : q_T} {m : am_Mm} (hm : q_Rm T m) (hC : q_Rc T m) (hK : q_Kp T) {i : Nat} {v1 : Int32} {v2 : Int32} (h1 : xs[i + 1]? = some v1) (h2 : xs[i + 2]? = some v2) (hi : i < 4000) {Q : am_Q} (k : ∀ (T' : q_T) (m' : am_Mm), q_Rm T' m' → q_Rc T' m' → q_Kp T' → am_P xs 40 L_law 1215 [some (.ref 1000202), some (.ref 0), some (.ref 153), some (.int (nI i))] [] m' Q) : am_P xs 40 L_law 608 [some (.ref 1000202), some (.ref 0), some (.ref 153), some (.int (nI i))] [] m Q := by
  refine w_aload_n (pc' := 609) at_L_608 rfl rfl rfl ?_
  refine w_aload_n (pc' := 610) at_L_609 rfl rfl rfl ?_
  refine w_iload_n (pc' := 611) at_L_610 rfl rfl ?_
  refine w_iconst (pc' := 612) 1 at_L_611 rfl ic_1 ?_
  refine w_iadd (pc' := 613) at_L_612 rfl ?_
  rw [show nI (i) + (1 : Int32) = nI (i + 1) from nI_add _ _]
  refine w_ialdR (j := i + 1) (pc' := 614) at_L_613 rfl (by decide) rfl rfl h1 (by omega) ?_
  skip
  refine w_aload_n (pc' := 615) at_L_614 rfl rfl rfl ?_
  refine w_iload_n (pc' := 616) at_L_615 rfl rfl ?_
  refine w_iconst (pc' := 617) 2 at_L_616 rfl ic_2 ?_
  refine w_iadd (pc' := 618) at_L_617 rfl ?_
  rw [show nI (i) + (2 : Int32) = nI (i + 2) from nI_add _ _]
  refine w_ialdR (j := i + 2) (pc' := 619) at_L_618 rfl (by decide) rfl rfl h2 (by omega) ?_
  skip
  refine w_cV2i (pc' := 622) (v_k_can xs hC hK.1 v1 v2) (by decide) at_L_619 rfl rfl (Nat.le_of_ble_eq_true rfl) sh_0 rfl (fun m1 hm' => ?_)
  obtain ⟨hC1, hF1⟩ := hm'
  refine w_aload_n (pc' := 623) at_L_622 rfl rfl rfl ?_
  refine w_aload_n (pc' := 624) at_L_623 rfl rfl rfl ?_
  refine w_iload_n (pc' := 625) at_L_624 rfl rfl ?_
  refine w_iconst (pc' := 626) 1 at_L_625 rfl ic_1 ?_
  refine w_iadd (pc' := 627) at_L_626 rfl ?_
  rw [show nI (i) + (1 : Int32) = nI (i + 1) from nI_add _ _]
  refine w_ialdR (j := i + 1) (pc' := 628) at_L_627 rfl (by decide) rfl rfl h1 (by omega) ?_
  skip
  refine w_aload_n (pc' := 629) at_L_628 rfl rfl rfl ?_
  refine w_iload_n (pc' := 630) at_L_629 rfl rfl ?_
  refine w_iconst (pc' := 631) 2 at_L_630 rfl ic_2 ?_
  refine w_iadd (pc' := 632) at_L_631 rfl ?_
  rw [show nI (i) + (2 : Int32) = nI (i + 2) from nI_add _ _]
  refine w_ialdR (j := i + 2) (pc' := 633) at_L_632 rfl (by decide) rfl rfl h2 (by omega) ?_
  skip
  refine w_cV2i (pc' := 636) (v_m_can xs (hm.FM hF1) hK.1.1.1 v1 v2) (by decide) at_L_633 rfl rfl (Nat.le_of_ble_eq_true rfl) sh_153 rfl (fun m2 hm' => ?_)
  obtain ⟨hm2, hG2⟩ := hm'
  refine w_ic_eq (t := 1215) (pc' := 639) at_L_636 (by decide) rfl (fun h636 => ?_) (fun h636 => ?_)
  · exact k _ _ hm2 (lw_nx hC1 hG2 (i_can hK v1 v2)) (i_can hK v1 v2)
  · exact absurd rfl h636
set_option maxRecDepth 100000 in
set_option maxHeartbeats 4000000 in
theorem lc_odds (xs : List Int32) {T : q_T} {m : am_Mm} (hm : q_Rm T m) (hC : q_Rc T m) (hK : q_Kp T) {i : Nat} {v1 : Int32} {v2 : Int32} {v3 : Int32} (h1 : xs[i + 1]? = some v1) (h2 : xs[i + 2]? = some v2) (h3 : xs[i + 3]? = some v3) (hi : i < 4000) {Q : am_Q} (k : ∀ (T' : q_T) (m' : am_Mm), q_Rm T' m' → q_Rc T' m' → q_Kp T' → am_P xs 40 L_law 1215 [some (.ref 1000202), some (.ref 0), some (.ref 153), some (.int (nI i))] [] m' Q) : am_P xs 40 L_law 641 [some (.ref 1000202), some (.ref 0), some (.ref 153), some (.int (nI i))] [] m Q := by
  refine w_aload_n (pc' := 642) at_L_641 rfl rfl rfl ?_
  refine w_aload_n (pc' := 643) at_L_642 rfl rfl rfl ?_
  refine w_iload_n (pc' := 644) at_L_643 rfl rfl ?_
  refine w_iconst (pc' := 645) 1 at_L_644 rfl ic_1 ?_
  refine w_iadd (pc' := 646) at_L_645 rfl ?_
  rw [show nI (i) + (1 : Int32) = nI (i + 1) from nI_add _ _]
  refine w_ialdR (j := i + 1) (pc' := 647) at_L_646 rfl (by decide) rfl rfl h1 (by omega) ?_
  skip
  refine w_aload_n (pc' := 648) at_L_647 rfl rfl rfl ?_
  refine w_iload_n (pc' := 649) at_L_648 rfl rfl ?_
  refine w_iconst (pc' := 650) 2 at_L_649 rfl ic_2 ?_
  refine w_iadd (pc' := 651) at_L_650 rfl ?_
  rw [show nI (i) + (2 : Int32) = nI (i + 2) from nI_add _ _]
  refine w_ialdR (j := i + 2) (pc' := 652) at_L_651 rfl (by decide) rfl rfl h2 (by omega) ?_
  skip
  refine w_aload_n (pc' := 653) at_L_652 rfl rfl rfl ?_
  refine w_iload_n (pc' := 654) at_L_653 rfl rfl ?_
  refine w_iconst (pc' := 655) 3 at_L_654 rfl ic_3 ?_
  refine w_iadd (pc' := 656) at_L_655 rfl ?_
  rw [show nI (i) + (3 : Int32) = nI (i + 3) from nI_add _ _]
  refine w_ialdR (j := i + 3) (pc' := 657) at_L_656 rfl (by decide) rfl rfl h3 (by omega) ?_
  skip
  refine w_cV3j (pc' := 660) (v_k_odds xs hC hK.1 v1 v2 v3) (by decide) at_L_657 rfl rfl (Nat.le_of_ble_eq_true rfl) sh_0 rfl (fun m1 hm' => ?_)
  obtain ⟨hC1, hF1⟩ := hm'
  refine w_aload_n (pc' := 661) at_L_660 rfl rfl rfl ?_
  refine w_aload_n (pc' := 662) at_L_661 rfl rfl rfl ?_
  refine w_iload_n (pc' := 663) at_L_662 rfl rfl ?_
  refine w_iconst (pc' := 664) 1 at_L_663 rfl ic_1 ?_
  refine w_iadd (pc' := 665) at_L_664 rfl ?_
  rw [show nI (i) + (1 : Int32) = nI (i + 1) from nI_add _ _]
  refine w_ialdR (j := i + 1) (pc' := 666) at_L_665 rfl (by decide) rfl rfl h1 (by omega) ?_
  skip
  refine w_aload_n (pc' := 667) at_L_666 rfl rfl rfl ?_
  refine w_iload_n (pc' := 668) at_L_667 rfl rfl ?_
  refine w_iconst (pc' := 669) 2 at_L_668 rfl ic_2 ?_
  refine w_iadd (pc' := 670) at_L_669 rfl ?_
  rw [show nI (i) + (2 : Int32) = nI (i + 2) from nI_add _ _]
  refine w_ialdR (j := i + 2) (pc' := 671) at_L_670 rfl (by decide) rfl rfl h2 (by omega) ?_
  skip
  refine w_aload_n (pc' := 672) at_L_671 rfl rfl rfl ?_
  refine w_iload_n (pc' := 673) at_L_672 rfl rfl ?_
  refine w_iconst (pc' := 674) 3 at_L_673 rfl ic_3 ?_
  refine w_iadd (pc' := 675) at_L_674 rfl ?_
  rw [show nI (i) + (3 : Int32) = nI (i + 3) from nI_add _ _]
  refine w_ialdR (j := i + 3) (pc' := 676) at_L_675 rfl (by decide) rfl rfl h3 (by omega) ?_
  skip
  refine w_cV3j (pc' := 679) (v_m_odds xs (hm.FM hF1) hK.1.1.1 v1 v2 v3) (by decide) at_L_676 rfl rfl (Nat.le_of_ble_eq_true rfl) sh_153 rfl (fun m2 hm' => ?_)
  obtain ⟨hm2, hG2⟩ := hm'
  refine w_lcmp (pc' := 680) at_L_679 rfl ?_
  refine w_if_eq (t := 1215) (pc' := 683) at_L_680 (by decide) rfl (fun h680 => ?_) (fun h680 => ?_)
  · exact k _ _ hm2 (lw_nx hC1 hG2 (i_odds hK v1 v2 v3)) (i_odds hK v1 v2 v3)
  · exact absurd (lg_cmp_self _) h680
set_option maxRecDepth 100000 in
set_option maxHeartbeats 4000000 in
theorem lc_mean (xs : List Int32) {T : q_T} {m : am_Mm} (hm : q_Rm T m) (hC : q_Rc T m) (hK : q_Kp T) {i : Nat} {v1 : Int32} {v2 : Int32} (h1 : xs[i + 1]? = some v1) (h2 : xs[i + 2]? = some v2) (hi : i < 4000) {Q : am_Q} (k : ∀ (T' : q_T) (m' : am_Mm), q_Rm T' m' → q_Rc T' m' → q_Kp T' → am_P xs 40 L_law 1215 [some (.ref 1000202), some (.ref 0), some (.ref 153), some (.int (nI i))] [] m' Q) : am_P xs 40 L_law 685 [some (.ref 1000202), some (.ref 0), some (.ref 153), some (.int (nI i))] [] m Q := by
  refine w_aload_n (pc' := 686) at_L_685 rfl rfl rfl ?_
  refine w_aload_n (pc' := 687) at_L_686 rfl rfl rfl ?_
  refine w_iload_n (pc' := 688) at_L_687 rfl rfl ?_
  refine w_iconst (pc' := 689) 1 at_L_688 rfl ic_1 ?_
  refine w_iadd (pc' := 690) at_L_689 rfl ?_
  rw [show nI (i) + (1 : Int32) = nI (i + 1) from nI_add _ _]
  refine w_ialdR (j := i + 1) (pc' := 691) at_L_690 rfl (by decide) rfl rfl h1 (by omega) ?_
  skip
  refine w_aload_n (pc' := 692) at_L_691 rfl rfl rfl ?_
  refine w_iload_n (pc' := 693) at_L_692 rfl rfl ?_
  refine w_iconst (pc' := 694) 2 at_L_693 rfl ic_2 ?_
  refine w_iadd (pc' := 695) at_L_694 rfl ?_
  rw [show nI (i) + (2 : Int32) = nI (i + 2) from nI_add _ _]
  refine w_ialdR (j := i + 2) (pc' := 696) at_L_695 rfl (by decide) rfl rfl h2 (by omega) ?_
  skip
  refine w_cV2j (pc' := 699) (v_k_mean xs hC hK.1 v1 v2) (by decide) at_L_696 rfl rfl (Nat.le_of_ble_eq_true rfl) sh_0 rfl (fun m1 hm' => ?_)
  obtain ⟨hC1, hF1⟩ := hm'
  refine w_aload_n (pc' := 700) at_L_699 rfl rfl rfl ?_
  refine w_aload_n (pc' := 701) at_L_700 rfl rfl rfl ?_
  refine w_iload_n (pc' := 702) at_L_701 rfl rfl ?_
  refine w_iconst (pc' := 703) 1 at_L_702 rfl ic_1 ?_
  refine w_iadd (pc' := 704) at_L_703 rfl ?_
  rw [show nI (i) + (1 : Int32) = nI (i + 1) from nI_add _ _]
  refine w_ialdR (j := i + 1) (pc' := 705) at_L_704 rfl (by decide) rfl rfl h1 (by omega) ?_
  skip
  refine w_aload_n (pc' := 706) at_L_705 rfl rfl rfl ?_
  refine w_iload_n (pc' := 707) at_L_706 rfl rfl ?_
  refine w_iconst (pc' := 708) 2 at_L_707 rfl ic_2 ?_
  refine w_iadd (pc' := 709) at_L_708 rfl ?_
  rw [show nI (i) + (2 : Int32) = nI (i + 2) from nI_add _ _]
  refine w_ialdR (j := i + 2) (pc' := 710) at_L_709 rfl (by decide) rfl rfl h2 (by omega) ?_
  skip
  refine w_cV2j (pc' := 713) (v_m_mean xs (hm.FM hF1) hK.1.1.1 v1 v2) (by decide) at_L_710 rfl rfl (Nat.le_of_ble_eq_true rfl) sh_153 rfl (fun m2 hm' => ?_)
  obtain ⟨hm2, hG2⟩ := hm'
  refine w_lcmp (pc' := 714) at_L_713 rfl ?_
  refine w_if_eq (t := 1215) (pc' := 717) at_L_714 (by decide) rfl (fun h714 => ?_) (fun h714 => ?_)
  · exact k _ _ hm2 (lw_nx hC1 hG2 (i_mean hK v1 v2)) (i_mean hK v1 v2)
  · exact absurd (lg_cmp_self _) h714
set_option maxRecDepth 100000 in
set_option maxHeartbeats 4000000 in
theorem lc_plan (xs : List Int32) {T : q_T} {m : am_Mm} (hm : q_Rm T m) (hC : q_Rc T m) (hK : q_Kp T) {i : Nat} {v1 : Int32} {v2 : Int32} (h1 : xs[i + 1]? = some v1) (h2 : xs[i + 2]? = some v2) (hi : i < 4000) {Q : am_Q} (k : ∀ (T' : q_T) (m' : am_Mm), q_Rm T' m' → q_Rc T' m' → q_Kp T' → am_P xs 40 L_law 1215 [some (.ref 1000202), some (.ref 0), some (.ref 153), some (.int (nI i))] [] m' Q) : am_P xs 40 L_law 719 [some (.ref 1000202), some (.ref 0), some (.ref 153), some (.int (nI i))] [] m Q := by
  refine w_aload_n (pc' := 720) at_L_719 rfl rfl rfl ?_
  refine w_aload_n (pc' := 721) at_L_720 rfl rfl rfl ?_
  refine w_iload_n (pc' := 722) at_L_721 rfl rfl ?_
  refine w_iconst (pc' := 723) 1 at_L_722 rfl ic_1 ?_
  refine w_iadd (pc' := 724) at_L_723 rfl ?_
  rw [show nI (i) + (1 : Int32) = nI (i + 1) from nI_add _ _]
  refine w_ialdR (j := i + 1) (pc' := 725) at_L_724 rfl (by decide) rfl rfl h1 (by omega) ?_
  skip
  refine w_aload_n (pc' := 726) at_L_725 rfl rfl rfl ?_
  refine w_iload_n (pc' := 727) at_L_726 rfl rfl ?_
  refine w_iconst (pc' := 728) 2 at_L_727 rfl ic_2 ?_
  refine w_iadd (pc' := 729) at_L_728 rfl ?_
  rw [show nI (i) + (2 : Int32) = nI (i + 2) from nI_add _ _]
  refine w_ialdR (j := i + 2) (pc' := 730) at_L_729 rfl (by decide) rfl rfl h2 (by omega) ?_
  skip
  refine w_cV2i (pc' := 733) (v_k_plan xs hC hK.1 v1 v2) (by decide) at_L_730 rfl rfl (Nat.le_of_ble_eq_true rfl) sh_0 rfl (fun m1 hm' => ?_)
  obtain ⟨hC1, hF1⟩ := hm'
  refine w_aload_n (pc' := 734) at_L_733 rfl rfl rfl ?_
  refine w_aload_n (pc' := 735) at_L_734 rfl rfl rfl ?_
  refine w_iload_n (pc' := 736) at_L_735 rfl rfl ?_
  refine w_iconst (pc' := 737) 1 at_L_736 rfl ic_1 ?_
  refine w_iadd (pc' := 738) at_L_737 rfl ?_
  rw [show nI (i) + (1 : Int32) = nI (i + 1) from nI_add _ _]
  refine w_ialdR (j := i + 1) (pc' := 739) at_L_738 rfl (by decide) rfl rfl h1 (by omega) ?_
  skip
  refine w_aload_n (pc' := 740) at_L_739 rfl rfl rfl ?_
  refine w_iload_n (pc' := 741) at_L_740 rfl rfl ?_
  refine w_iconst (pc' := 742) 2 at_L_741 rfl ic_2 ?_
  refine w_iadd (pc' := 743) at_L_742 rfl ?_
  rw [show nI (i) + (2 : Int32) = nI (i + 2) from nI_add _ _]
  refine w_ialdR (j := i + 2) (pc' := 744) at_L_743 rfl (by decide) rfl rfl h2 (by omega) ?_
  skip
  refine w_cV2i (pc' := 747) (v_m_plan xs (hm.FM hF1) hK.1.1.1.1 v1 v2) (by decide) at_L_744 rfl rfl (Nat.le_of_ble_eq_true rfl) sh_153 rfl (fun m2 hm' => ?_)
  obtain ⟨hm2, hG2⟩ := hm'
  refine w_ic_eq (t := 1215) (pc' := 750) at_L_747 (by decide) rfl (fun h747 => ?_) (fun h747 => ?_)
  · exact k _ _ hm2 (lw_nx hC1 hG2 (i_plan hK v1 v2)) (i_plan hK v1 v2)
  · exact absurd rfl h747
set_option maxRecDepth 100000 in
set_option maxHeartbeats 4000000 in
theorem lc_ends (xs : List Int32) {T : q_T} {m : am_Mm} (hm : q_Rm T m) (hC : q_Rc T m) (hK : q_Kp T) {i : Nat} {v1 : Int32} (h1 : xs[i + 1]? = some v1) (hi : i < 4000) {Q : am_Q} (k : ∀ (T' : q_T) (m' : am_Mm), q_Rm T' m' → q_Rc T' m' → q_Kp T' → am_P xs 40 L_law 1215 [some (.ref 1000202), some (.ref 0), some (.ref 153), some (.int (nI i))] [] m' Q) : am_P xs 40 L_law 752 [some (.ref 1000202), some (.ref 0), some (.ref 153), some (.int (nI i))] [] m Q := by
  refine w_aload_n (pc' := 753) at_L_752 rfl rfl rfl ?_
  refine w_aload_n (pc' := 754) at_L_753 rfl rfl rfl ?_
  refine w_iload_n (pc' := 755) at_L_754 rfl rfl ?_
  refine w_iconst (pc' := 756) 1 at_L_755 rfl ic_1 ?_
  refine w_iadd (pc' := 757) at_L_756 rfl ?_
  rw [show nI (i) + (1 : Int32) = nI (i + 1) from nI_add _ _]
  refine w_ialdR (j := i + 1) (pc' := 758) at_L_757 rfl (by decide) rfl rfl h1 (by omega) ?_
  skip
  refine w_cV1i (pc' := 761) (v_k_ends xs hC hK.1 v1) (by decide) at_L_758 rfl rfl (Nat.le_of_ble_eq_true rfl) sh_0 rfl (fun m1 hm' => ?_)
  obtain ⟨hC1, hF1⟩ := hm'
  refine w_aload_n (pc' := 762) at_L_761 rfl rfl rfl ?_
  refine w_aload_n (pc' := 763) at_L_762 rfl rfl rfl ?_
  refine w_iload_n (pc' := 764) at_L_763 rfl rfl ?_
  refine w_iconst (pc' := 765) 1 at_L_764 rfl ic_1 ?_
  refine w_iadd (pc' := 766) at_L_765 rfl ?_
  rw [show nI (i) + (1 : Int32) = nI (i + 1) from nI_add _ _]
  refine w_ialdR (j := i + 1) (pc' := 767) at_L_766 rfl (by decide) rfl rfl h1 (by omega) ?_
  skip
  refine w_cV1i (pc' := 770) (v_m_ends xs (hm.FM hF1) hK.1.1.1 hK.1.1.Pl v1) (by decide) at_L_767 rfl rfl (Nat.le_of_ble_eq_true rfl) sh_153 rfl (fun m2 hm' => ?_)
  obtain ⟨hm2, hG2⟩ := hm'
  refine w_ic_eq (t := 1215) (pc' := 773) at_L_770 (by decide) rfl (fun h770 => ?_) (fun h770 => ?_)
  · exact k _ _ hm2 (lw_nx hC1 hG2 (i_ends hK v1)) (i_ends hK v1)
  · exact absurd rfl h770
set_option maxRecDepth 100000 in
set_option maxHeartbeats 4000000 in
theorem lc_book (xs : List Int32) {T : q_T} {m : am_Mm} (hm : q_Rm T m) (hC : q_Rc T m) (hK : q_Kp T) {i : Nat} {v1 : Int32} {v2 : Int32} (h1 : xs[i + 1]? = some v1) (h2 : xs[i + 2]? = some v2) (hi : i < 4000) {Q : am_Q} (k : ∀ (T' : q_T) (m' : am_Mm), q_Rm T' m' → q_Rc T' m' → q_Kp T' → am_P xs 40 L_law 1215 [some (.ref 1000202), some (.ref 0), some (.ref 153), some (.int (nI i))] [] m' Q) : am_P xs 40 L_law 775 [some (.ref 1000202), some (.ref 0), some (.ref 153), some (.int (nI i))] [] m Q := by
  refine w_aload_n (pc' := 776) at_L_775 rfl rfl rfl ?_
  refine w_aload_n (pc' := 777) at_L_776 rfl rfl rfl ?_
  refine w_iload_n (pc' := 778) at_L_777 rfl rfl ?_
  refine w_iconst (pc' := 779) 1 at_L_778 rfl ic_1 ?_
  refine w_iadd (pc' := 780) at_L_779 rfl ?_
  rw [show nI (i) + (1 : Int32) = nI (i + 1) from nI_add _ _]
  refine w_ialdR (j := i + 1) (pc' := 781) at_L_780 rfl (by decide) rfl rfl h1 (by omega) ?_
  skip
  refine w_aload_n (pc' := 782) at_L_781 rfl rfl rfl ?_
  refine w_iload_n (pc' := 783) at_L_782 rfl rfl ?_
  refine w_iconst (pc' := 784) 2 at_L_783 rfl ic_2 ?_
  refine w_iadd (pc' := 785) at_L_784 rfl ?_
  rw [show nI (i) + (2 : Int32) = nI (i + 2) from nI_add _ _]
  refine w_ialdR (j := i + 2) (pc' := 786) at_L_785 rfl (by decide) rfl rfl h2 (by omega) ?_
  skip
  refine w_cV2i (pc' := 789) (v_k_book xs hC hK.1 v1 v2) (by decide) at_L_786 rfl rfl (Nat.le_of_ble_eq_true rfl) sh_0 rfl (fun m1 hm' => ?_)
  obtain ⟨hC1, hF1⟩ := hm'
  refine w_aload_n (pc' := 790) at_L_789 rfl rfl rfl ?_
  refine w_aload_n (pc' := 791) at_L_790 rfl rfl rfl ?_
  refine w_iload_n (pc' := 792) at_L_791 rfl rfl ?_
  refine w_iconst (pc' := 793) 1 at_L_792 rfl ic_1 ?_
  refine w_iadd (pc' := 794) at_L_793 rfl ?_
  rw [show nI (i) + (1 : Int32) = nI (i + 1) from nI_add _ _]
  refine w_ialdR (j := i + 1) (pc' := 795) at_L_794 rfl (by decide) rfl rfl h1 (by omega) ?_
  skip
  refine w_aload_n (pc' := 796) at_L_795 rfl rfl rfl ?_
  refine w_iload_n (pc' := 797) at_L_796 rfl rfl ?_
  refine w_iconst (pc' := 798) 2 at_L_797 rfl ic_2 ?_
  refine w_iadd (pc' := 799) at_L_798 rfl ?_
  rw [show nI (i) + (2 : Int32) = nI (i + 2) from nI_add _ _]
  refine w_ialdR (j := i + 2) (pc' := 800) at_L_799 rfl (by decide) rfl rfl h2 (by omega) ?_
  skip
  refine w_cV2i (pc' := 803) (v_m_book xs (hm.FM hF1) hK.1.1.1.1 v1 v2) (by decide) at_L_800 rfl rfl (Nat.le_of_ble_eq_true rfl) sh_153 rfl (fun m2 hm' => ?_)
  obtain ⟨hm2, hG2⟩ := hm'
  refine w_ic_eq (t := 1215) (pc' := 806) at_L_803 (by decide) rfl (fun h803 => ?_) (fun h803 => ?_)
  · exact k _ _ hm2 (lw_nx hC1 hG2 (i_book hK v1 v2)) (i_book hK v1 v2)
  · exact absurd rfl h803
set_option maxRecDepth 100000 in
set_option maxHeartbeats 4000000 in
theorem lc_looked (xs : List Int32) {T : q_T} {m : am_Mm} (hm : q_Rm T m) (hC : q_Rc T m) (hK : q_Kp T) {i : Nat} (hi : i < 4000) {Q : am_Q} (k : ∀ (T' : q_T) (m' : am_Mm), q_Rm T' m' → q_Rc T' m' → q_Kp T' → am_P xs 40 L_law 1215 [some (.ref 1000202), some (.ref 0), some (.ref 153), some (.int (nI i))] [] m' Q) : am_P xs 40 L_law 808 [some (.ref 1000202), some (.ref 0), some (.ref 153), some (.int (nI i))] [] m Q := by
  refine w_aload_n (pc' := 809) at_L_808 rfl rfl rfl ?_
  refine w_cV0i (pc' := 812) (v_k_looked xs hC hK.1) (by decide) at_L_809 rfl rfl (Nat.le_of_ble_eq_true rfl) sh_0 rfl (fun m1 hm' => ?_)
  obtain ⟨hC1, hF1⟩ := hm'
  refine w_aload_n (pc' := 813) at_L_812 rfl rfl rfl ?_
  refine w_cV0i (pc' := 816) (v_m_looked xs (hm.FM hF1) hK.1.1.1.1) (by decide) at_L_813 rfl rfl (Nat.le_of_ble_eq_true rfl) sh_153 rfl (fun m2 hm' => ?_)
  obtain ⟨hm2, hG2⟩ := hm'
  refine w_ic_eq (t := 1215) (pc' := 819) at_L_816 (by decide) rfl (fun h816 => ?_) (fun h816 => ?_)
  · exact k _ _ hm2 (lw_nx hC1 hG2 (i_looked hK)) (i_looked hK)
  · exact absurd rfl h816
set_option maxRecDepth 100000 in
set_option maxHeartbeats 4000000 in
theorem lc_judge (xs : List Int32) {T : q_T} {m : am_Mm} (hm : q_Rm T m) (hC : q_Rc T m) (hK : q_Kp T) {i : Nat} {v1 : Int32} {v2 : Int32} (h1 : xs[i + 1]? = some v1) (h2 : xs[i + 2]? = some v2) (hi : i < 4000) {Q : am_Q} (k : ∀ (T' : q_T) (m' : am_Mm), q_Rm T' m' → q_Rc T' m' → q_Kp T' → am_P xs 40 L_law 1215 [some (.ref 1000202), some (.ref 0), some (.ref 153), some (.int (nI i))] [] m' Q) : am_P xs 40 L_law 821 [some (.ref 1000202), some (.ref 0), some (.ref 153), some (.int (nI i))] [] m Q := by
  refine w_aload_n (pc' := 822) at_L_821 rfl rfl rfl ?_
  refine w_aload_n (pc' := 823) at_L_822 rfl rfl rfl ?_
  refine w_iload_n (pc' := 824) at_L_823 rfl rfl ?_
  refine w_iconst (pc' := 825) 1 at_L_824 rfl ic_1 ?_
  refine w_iadd (pc' := 826) at_L_825 rfl ?_
  rw [show nI (i) + (1 : Int32) = nI (i + 1) from nI_add _ _]
  refine w_ialdR (j := i + 1) (pc' := 827) at_L_826 rfl (by decide) rfl rfl h1 (by omega) ?_
  skip
  refine w_aload_n (pc' := 828) at_L_827 rfl rfl rfl ?_
  refine w_iload_n (pc' := 829) at_L_828 rfl rfl ?_
  refine w_iconst (pc' := 830) 2 at_L_829 rfl ic_2 ?_
  refine w_iadd (pc' := 831) at_L_830 rfl ?_
  rw [show nI (i) + (2 : Int32) = nI (i + 2) from nI_add _ _]
  refine w_ialdR (j := i + 2) (pc' := 832) at_L_831 rfl (by decide) rfl rfl h2 (by omega) ?_
  skip
  refine w_cV2i (pc' := 835) (v_k_judge xs hC hK.1 hK.2 v1 v2) (by decide) at_L_832 rfl rfl (Nat.le_of_ble_eq_true rfl) sh_0 rfl (fun m1 hm' => ?_)
  obtain ⟨hC1, hF1⟩ := hm'
  refine w_aload_n (pc' := 836) at_L_835 rfl rfl rfl ?_
  refine w_aload_n (pc' := 837) at_L_836 rfl rfl rfl ?_
  refine w_iload_n (pc' := 838) at_L_837 rfl rfl ?_
  refine w_iconst (pc' := 839) 1 at_L_838 rfl ic_1 ?_
  refine w_iadd (pc' := 840) at_L_839 rfl ?_
  rw [show nI (i) + (1 : Int32) = nI (i + 1) from nI_add _ _]
  refine w_ialdR (j := i + 1) (pc' := 841) at_L_840 rfl (by decide) rfl rfl h1 (by omega) ?_
  skip
  refine w_aload_n (pc' := 842) at_L_841 rfl rfl rfl ?_
  refine w_iload_n (pc' := 843) at_L_842 rfl rfl ?_
  refine w_iconst (pc' := 844) 2 at_L_843 rfl ic_2 ?_
  refine w_iadd (pc' := 845) at_L_844 rfl ?_
  rw [show nI (i) + (2 : Int32) = nI (i + 2) from nI_add _ _]
  refine w_ialdR (j := i + 2) (pc' := 846) at_L_845 rfl (by decide) rfl rfl h2 (by omega) ?_
  skip
  refine w_cV2i (pc' := 849) (v_m_judge xs (hm.FM hF1) hK.1.1.1.1 v1 v2) (by decide) at_L_846 rfl rfl (Nat.le_of_ble_eq_true rfl) sh_153 rfl (fun m2 hm' => ?_)
  obtain ⟨hm2, hG2⟩ := hm'
  refine w_ic_eq (t := 1215) (pc' := 852) at_L_849 (by decide) rfl (fun h849 => ?_) (fun h849 => ?_)
  · exact k _ _ hm2 (lw_nx hC1 hG2 (i_judge hK v1 v2)) (i_judge hK v1 v2)
  · exact absurd rfl h849
set_option maxRecDepth 100000 in
set_option maxHeartbeats 4000000 in
theorem lc_image (xs : List Int32) {T : q_T} {m : am_Mm} (hm : q_Rm T m) (hC : q_Rc T m) (hK : q_Kp T) {i : Nat} (hi : i < 4000) {Q : am_Q} (k : ∀ (T' : q_T) (m' : am_Mm), q_Rm T' m' → q_Rc T' m' → q_Kp T' → am_P xs 40 L_law 1215 [some (.ref 1000202), some (.ref 0), some (.ref 153), some (.int (nI i))] [] m' Q) : am_P xs 40 L_law 854 [some (.ref 1000202), some (.ref 0), some (.ref 153), some (.int (nI i))] [] m Q := by
  refine w_aload_n (pc' := 855) at_L_854 rfl rfl rfl ?_
  refine w_cV0i (pc' := 858) (v_k_image xs hC hK.1) (by decide) at_L_855 rfl rfl (Nat.le_of_ble_eq_true rfl) sh_0 rfl (fun m1 hm' => ?_)
  obtain ⟨hC1, hF1⟩ := hm'
  refine w_aload_n (pc' := 859) at_L_858 rfl rfl rfl ?_
  refine w_cV0i (pc' := 862) (v_m_image xs (hm.FM hF1)) (by decide) at_L_859 rfl rfl (Nat.le_of_ble_eq_true rfl) sh_153 rfl (fun m2 hm' => ?_)
  obtain ⟨hm2, hG2⟩ := hm'
  refine w_ic_eq (t := 1215) (pc' := 865) at_L_862 (by decide) rfl (fun h862 => ?_) (fun h862 => ?_)
  · exact k _ _ hm2 (lw_nx hC1 hG2 (i_image hK)) (i_image hK)
  · exact absurd rfl h862
set_option maxRecDepth 100000 in
set_option maxHeartbeats 4000000 in
theorem lc_undo (xs : List Int32) {T : q_T} {m : am_Mm} (hm : q_Rm T m) (hC : q_Rc T m) (hK : q_Kp T) {i : Nat} (hi : i < 4000) {Q : am_Q} (k : ∀ (T' : q_T) (m' : am_Mm), q_Rm T' m' → q_Rc T' m' → q_Kp T' → am_P xs 40 L_law 1215 [some (.ref 1000202), some (.ref 0), some (.ref 153), some (.int (nI i))] [] m' Q) : am_P xs 40 L_law 867 [some (.ref 1000202), some (.ref 0), some (.ref 153), some (.int (nI i))] [] m Q := by
  refine w_aload_n (pc' := 868) at_L_867 rfl rfl rfl ?_
  refine w_cV0i (pc' := 871) (v_k_undo xs hC hK.1) (by decide) at_L_868 rfl rfl (Nat.le_of_ble_eq_true rfl) sh_0 rfl (fun m1 hm' => ?_)
  obtain ⟨hC1, hF1⟩ := hm'
  refine w_aload_n (pc' := 872) at_L_871 rfl rfl rfl ?_
  refine w_cV0i (pc' := 875) (v_m_undo xs (hm.FM hF1) hK.1.1.1.1) (by decide) at_L_872 rfl rfl (Nat.le_of_ble_eq_true rfl) sh_153 rfl (fun m2 hm' => ?_)
  obtain ⟨hm2, hG2⟩ := hm'
  refine w_ic_eq (t := 1215) (pc' := 878) at_L_875 (by decide) rfl (fun h875 => ?_) (fun h875 => ?_)
  · exact k _ _ hm2 (lw_nx hC1 hG2 (i_undo hK)) (i_undo hK)
  · exact absurd rfl h875
set_option maxRecDepth 100000 in
set_option maxHeartbeats 4000000 in
theorem lc_act (xs : List Int32) {T : q_T} {m : am_Mm} (hm : q_Rm T m) (hC : q_Rc T m) (hK : q_Kp T) {i : Nat} {v1 : Int32} {v2 : Int32} {v3 : Int32} (h1 : xs[i + 1]? = some v1) (h2 : xs[i + 2]? = some v2) (h3 : xs[i + 3]? = some v3) (hi : i < 4000) {Q : am_Q} (k : ∀ (T' : q_T) (m' : am_Mm), q_Rm T' m' → q_Rc T' m' → q_Kp T' → am_P xs 40 L_law 1215 [some (.ref 1000202), some (.ref 0), some (.ref 153), some (.int (nI i))] [] m' Q) : am_P xs 40 L_law 880 [some (.ref 1000202), some (.ref 0), some (.ref 153), some (.int (nI i))] [] m Q := by
  refine w_aload_n (pc' := 881) at_L_880 rfl rfl rfl ?_
  refine w_aload_n (pc' := 882) at_L_881 rfl rfl rfl ?_
  refine w_iload_n (pc' := 883) at_L_882 rfl rfl ?_
  refine w_iconst (pc' := 884) 1 at_L_883 rfl ic_1 ?_
  refine w_iadd (pc' := 885) at_L_884 rfl ?_
  rw [show nI (i) + (1 : Int32) = nI (i + 1) from nI_add _ _]
  refine w_ialdR (j := i + 1) (pc' := 886) at_L_885 rfl (by decide) rfl rfl h1 (by omega) ?_
  skip
  refine w_aload_n (pc' := 887) at_L_886 rfl rfl rfl ?_
  refine w_iload_n (pc' := 888) at_L_887 rfl rfl ?_
  refine w_iconst (pc' := 889) 2 at_L_888 rfl ic_2 ?_
  refine w_iadd (pc' := 890) at_L_889 rfl ?_
  rw [show nI (i) + (2 : Int32) = nI (i + 2) from nI_add _ _]
  refine w_ialdR (j := i + 2) (pc' := 891) at_L_890 rfl (by decide) rfl rfl h2 (by omega) ?_
  skip
  refine w_aload_n (pc' := 892) at_L_891 rfl rfl rfl ?_
  refine w_iload_n (pc' := 893) at_L_892 rfl rfl ?_
  refine w_iconst (pc' := 894) 3 at_L_893 rfl ic_3 ?_
  refine w_iadd (pc' := 895) at_L_894 rfl ?_
  rw [show nI (i) + (3 : Int32) = nI (i + 3) from nI_add _ _]
  refine w_ialdR (j := i + 3) (pc' := 896) at_L_895 rfl (by decide) rfl rfl h3 (by omega) ?_
  skip
  refine w_cV3i (pc' := 899) (v_k_act xs hC hK.1 v1 v2 v3) (by decide) at_L_896 rfl rfl (Nat.le_of_ble_eq_true rfl) sh_0 rfl (fun m1 hm' => ?_)
  obtain ⟨hC1, hF1⟩ := hm'
  refine w_aload_n (pc' := 900) at_L_899 rfl rfl rfl ?_
  refine w_aload_n (pc' := 901) at_L_900 rfl rfl rfl ?_
  refine w_iload_n (pc' := 902) at_L_901 rfl rfl ?_
  refine w_iconst (pc' := 903) 1 at_L_902 rfl ic_1 ?_
  refine w_iadd (pc' := 904) at_L_903 rfl ?_
  rw [show nI (i) + (1 : Int32) = nI (i + 1) from nI_add _ _]
  refine w_ialdR (j := i + 1) (pc' := 905) at_L_904 rfl (by decide) rfl rfl h1 (by omega) ?_
  skip
  refine w_aload_n (pc' := 906) at_L_905 rfl rfl rfl ?_
  refine w_iload_n (pc' := 907) at_L_906 rfl rfl ?_
  refine w_iconst (pc' := 908) 2 at_L_907 rfl ic_2 ?_
  refine w_iadd (pc' := 909) at_L_908 rfl ?_
  rw [show nI (i) + (2 : Int32) = nI (i + 2) from nI_add _ _]
  refine w_ialdR (j := i + 2) (pc' := 910) at_L_909 rfl (by decide) rfl rfl h2 (by omega) ?_
  skip
  refine w_aload_n (pc' := 911) at_L_910 rfl rfl rfl ?_
  refine w_iload_n (pc' := 912) at_L_911 rfl rfl ?_
  refine w_iconst (pc' := 913) 3 at_L_912 rfl ic_3 ?_
  refine w_iadd (pc' := 914) at_L_913 rfl ?_
  rw [show nI (i) + (3 : Int32) = nI (i + 3) from nI_add _ _]
  refine w_ialdR (j := i + 3) (pc' := 915) at_L_914 rfl (by decide) rfl rfl h3 (by omega) ?_
  skip
  refine w_cV3i (pc' := 918) (v_m_act xs (hm.FM hF1) hK.1.1.1.1 v1 v2 v3) (by decide) at_L_915 rfl rfl (Nat.le_of_ble_eq_true rfl) sh_153 rfl (fun m2 hm' => ?_)
  obtain ⟨hm2, hG2⟩ := hm'
  refine w_ic_eq (t := 1215) (pc' := 921) at_L_918 (by decide) rfl (fun h918 => ?_) (fun h918 => ?_)
  · exact k _ _ hm2 (lw_nx hC1 hG2 (i_act hK v1 v2 v3)) (i_act hK v1 v2 v3)
  · exact absurd rfl h918
set_option maxRecDepth 100000 in
set_option maxHeartbeats 4000000 in
theorem lc_trace (xs : List Int32) {T : q_T} {m : am_Mm} (hm : q_Rm T m) (hC : q_Rc T m) (hK : q_Kp T) {i : Nat} {v1 : Int32} (h1 : xs[i + 1]? = some v1) (hi : i < 4000) {Q : am_Q} (k : ∀ (T' : q_T) (m' : am_Mm), q_Rm T' m' → q_Rc T' m' → q_Kp T' → am_P xs 40 L_law 1215 [some (.ref 1000202), some (.ref 0), some (.ref 153), some (.int (nI i))] [] m' Q) : am_P xs 40 L_law 923 [some (.ref 1000202), some (.ref 0), some (.ref 153), some (.int (nI i))] [] m Q := by
  refine w_aload_n (pc' := 924) at_L_923 rfl rfl rfl ?_
  refine w_aload_n (pc' := 925) at_L_924 rfl rfl rfl ?_
  refine w_iload_n (pc' := 926) at_L_925 rfl rfl ?_
  refine w_iconst (pc' := 927) 1 at_L_926 rfl ic_1 ?_
  refine w_iadd (pc' := 928) at_L_927 rfl ?_
  rw [show nI (i) + (1 : Int32) = nI (i + 1) from nI_add _ _]
  refine w_ialdR (j := i + 1) (pc' := 929) at_L_928 rfl (by decide) rfl rfl h1 (by omega) ?_
  skip
  refine w_cV1i (pc' := 932) (v_k_trace xs hC hK.1 v1) (by decide) at_L_929 rfl rfl (Nat.le_of_ble_eq_true rfl) sh_0 rfl (fun m1 hm' => ?_)
  obtain ⟨hC1, hF1⟩ := hm'
  refine w_aload_n (pc' := 933) at_L_932 rfl rfl rfl ?_
  refine w_aload_n (pc' := 934) at_L_933 rfl rfl rfl ?_
  refine w_iload_n (pc' := 935) at_L_934 rfl rfl ?_
  refine w_iconst (pc' := 936) 1 at_L_935 rfl ic_1 ?_
  refine w_iadd (pc' := 937) at_L_936 rfl ?_
  rw [show nI (i) + (1 : Int32) = nI (i + 1) from nI_add _ _]
  refine w_ialdR (j := i + 1) (pc' := 938) at_L_937 rfl (by decide) rfl rfl h1 (by omega) ?_
  skip
  refine w_cV1i (pc' := 941) (v_m_trace xs (hm.FM hF1) hK.1.1.1.1 v1) (by decide) at_L_938 rfl rfl (Nat.le_of_ble_eq_true rfl) sh_153 rfl (fun m2 hm' => ?_)
  obtain ⟨hm2, hG2⟩ := hm'
  refine w_ic_eq (t := 1215) (pc' := 944) at_L_941 (by decide) rfl (fun h941 => ?_) (fun h941 => ?_)
  · exact k _ _ hm2 (lw_nx hC1 hG2 (i_trace hK v1)) (i_trace hK v1)
  · exact absurd rfl h941
set_option maxRecDepth 100000 in
set_option maxHeartbeats 4000000 in
theorem lc_taken (xs : List Int32) {T : q_T} {m : am_Mm} (hm : q_Rm T m) (hC : q_Rc T m) (hK : q_Kp T) {i : Nat} {v1 : Int32} {v2 : Int32} (h1 : xs[i + 1]? = some v1) (h2 : xs[i + 2]? = some v2) (hi : i < 4000) {Q : am_Q} (k : ∀ (T' : q_T) (m' : am_Mm), q_Rm T' m' → q_Rc T' m' → q_Kp T' → am_P xs 40 L_law 1215 [some (.ref 1000202), some (.ref 0), some (.ref 153), some (.int (nI i))] [] m' Q) : am_P xs 40 L_law 946 [some (.ref 1000202), some (.ref 0), some (.ref 153), some (.int (nI i))] [] m Q := by
  refine w_aload_n (pc' := 947) at_L_946 rfl rfl rfl ?_
  refine w_aload_n (pc' := 948) at_L_947 rfl rfl rfl ?_
  refine w_iload_n (pc' := 949) at_L_948 rfl rfl ?_
  refine w_iconst (pc' := 950) 1 at_L_949 rfl ic_1 ?_
  refine w_iadd (pc' := 951) at_L_950 rfl ?_
  rw [show nI (i) + (1 : Int32) = nI (i + 1) from nI_add _ _]
  refine w_ialdR (j := i + 1) (pc' := 952) at_L_951 rfl (by decide) rfl rfl h1 (by omega) ?_
  skip
  refine w_aload_n (pc' := 953) at_L_952 rfl rfl rfl ?_
  refine w_iload_n (pc' := 954) at_L_953 rfl rfl ?_
  refine w_iconst (pc' := 955) 2 at_L_954 rfl ic_2 ?_
  refine w_iadd (pc' := 956) at_L_955 rfl ?_
  rw [show nI (i) + (2 : Int32) = nI (i + 2) from nI_add _ _]
  refine w_ialdR (j := i + 2) (pc' := 957) at_L_956 rfl (by decide) rfl rfl h2 (by omega) ?_
  skip
  refine w_cV2i (pc' := 960) (v_k_taken xs hC hK.1 v1 v2) (by decide) at_L_957 rfl rfl (Nat.le_of_ble_eq_true rfl) sh_0 rfl (fun m1 hm' => ?_)
  obtain ⟨hC1, hF1⟩ := hm'
  refine w_aload_n (pc' := 961) at_L_960 rfl rfl rfl ?_
  refine w_aload_n (pc' := 962) at_L_961 rfl rfl rfl ?_
  refine w_iload_n (pc' := 963) at_L_962 rfl rfl ?_
  refine w_iconst (pc' := 964) 1 at_L_963 rfl ic_1 ?_
  refine w_iadd (pc' := 965) at_L_964 rfl ?_
  rw [show nI (i) + (1 : Int32) = nI (i + 1) from nI_add _ _]
  refine w_ialdR (j := i + 1) (pc' := 966) at_L_965 rfl (by decide) rfl rfl h1 (by omega) ?_
  skip
  refine w_aload_n (pc' := 967) at_L_966 rfl rfl rfl ?_
  refine w_iload_n (pc' := 968) at_L_967 rfl rfl ?_
  refine w_iconst (pc' := 969) 2 at_L_968 rfl ic_2 ?_
  refine w_iadd (pc' := 970) at_L_969 rfl ?_
  rw [show nI (i) + (2 : Int32) = nI (i + 2) from nI_add _ _]
  refine w_ialdR (j := i + 2) (pc' := 971) at_L_970 rfl (by decide) rfl rfl h2 (by omega) ?_
  skip
  refine w_cV2i (pc' := 974) (v_m_taken xs (hm.FM hF1) hK.1.1.1.1 v1 v2) (by decide) at_L_971 rfl rfl (Nat.le_of_ble_eq_true rfl) sh_153 rfl (fun m2 hm' => ?_)
  obtain ⟨hm2, hG2⟩ := hm'
  refine w_ic_eq (t := 1215) (pc' := 977) at_L_974 (by decide) rfl (fun h974 => ?_) (fun h974 => ?_)
  · exact k _ _ hm2 (lw_nx hC1 hG2 (i_taken hK v1 v2)) (i_taken hK v1 v2)
  · exact absurd rfl h974
set_option maxRecDepth 100000 in
set_option maxHeartbeats 4000000 in
theorem lc_count (xs : List Int32) {T : q_T} {m : am_Mm} (hm : q_Rm T m) (hC : q_Rc T m) (hK : q_Kp T) {i : Nat} {v1 : Int32} (h1 : xs[i + 1]? = some v1) (hi : i < 4000) {Q : am_Q} (k : ∀ (T' : q_T) (m' : am_Mm), q_Rm T' m' → q_Rc T' m' → q_Kp T' → am_P xs 40 L_law 1215 [some (.ref 1000202), some (.ref 0), some (.ref 153), some (.int (nI i))] [] m' Q) : am_P xs 40 L_law 979 [some (.ref 1000202), some (.ref 0), some (.ref 153), some (.int (nI i))] [] m Q := by
  refine w_aload_n (pc' := 980) at_L_979 rfl rfl rfl ?_
  refine w_aload_n (pc' := 981) at_L_980 rfl rfl rfl ?_
  refine w_iload_n (pc' := 982) at_L_981 rfl rfl ?_
  refine w_iconst (pc' := 983) 1 at_L_982 rfl ic_1 ?_
  refine w_iadd (pc' := 984) at_L_983 rfl ?_
  rw [show nI (i) + (1 : Int32) = nI (i + 1) from nI_add _ _]
  refine w_ialdR (j := i + 1) (pc' := 985) at_L_984 rfl (by decide) rfl rfl h1 (by omega) ?_
  skip
  refine w_cV1i (pc' := 988) (v_k_count xs hC hK.1 v1) (by decide) at_L_985 rfl rfl (Nat.le_of_ble_eq_true rfl) sh_0 rfl (fun m1 hm' => ?_)
  obtain ⟨hC1, hF1⟩ := hm'
  refine w_aload_n (pc' := 989) at_L_988 rfl rfl rfl ?_
  refine w_aload_n (pc' := 990) at_L_989 rfl rfl rfl ?_
  refine w_iload_n (pc' := 991) at_L_990 rfl rfl ?_
  refine w_iconst (pc' := 992) 1 at_L_991 rfl ic_1 ?_
  refine w_iadd (pc' := 993) at_L_992 rfl ?_
  rw [show nI (i) + (1 : Int32) = nI (i + 1) from nI_add _ _]
  refine w_ialdR (j := i + 1) (pc' := 994) at_L_993 rfl (by decide) rfl rfl h1 (by omega) ?_
  skip
  refine w_cV1i (pc' := 997) (v_m_count xs (hm.FM hF1) hK.1.1.1.1 v1) (by decide) at_L_994 rfl rfl (Nat.le_of_ble_eq_true rfl) sh_153 rfl (fun m2 hm' => ?_)
  obtain ⟨hm2, hG2⟩ := hm'
  refine w_ic_eq (t := 1215) (pc' := 1000) at_L_997 (by decide) rfl (fun h997 => ?_) (fun h997 => ?_)
  · exact k _ _ hm2 (lw_nx hC1 hG2 (i_count hK v1)) (i_count hK v1)
  · exact absurd rfl h997
set_option maxRecDepth 100000 in
set_option maxHeartbeats 4000000 in
theorem lc_tape (xs : List Int32) {T : q_T} {m : am_Mm} (hm : q_Rm T m) (hC : q_Rc T m) (hK : q_Kp T) {i : Nat} {v1 : Int32} {v2 : Int32} {v3 : Int32} (h1 : xs[i + 1]? = some v1) (h2 : xs[i + 2]? = some v2) (h3 : xs[i + 3]? = some v3) (hi : i < 4000) {Q : am_Q} (k : ∀ (T' : q_T) (m' : am_Mm), q_Rm T' m' → q_Rc T' m' → q_Kp T' → am_P xs 40 L_law 1215 [some (.ref 1000202), some (.ref 0), some (.ref 153), some (.int (nI i))] [] m' Q) : am_P xs 40 L_law 1002 [some (.ref 1000202), some (.ref 0), some (.ref 153), some (.int (nI i))] [] m Q := by
  refine w_aload_n (pc' := 1003) at_L_1002 rfl rfl rfl ?_
  refine w_aload_n (pc' := 1004) at_L_1003 rfl rfl rfl ?_
  refine w_iload_n (pc' := 1005) at_L_1004 rfl rfl ?_
  refine w_iconst (pc' := 1006) 1 at_L_1005 rfl ic_1 ?_
  refine w_iadd (pc' := 1007) at_L_1006 rfl ?_
  rw [show nI (i) + (1 : Int32) = nI (i + 1) from nI_add _ _]
  refine w_ialdR (j := i + 1) (pc' := 1008) at_L_1007 rfl (by decide) rfl rfl h1 (by omega) ?_
  skip
  refine w_aload_n (pc' := 1009) at_L_1008 rfl rfl rfl ?_
  refine w_iload_n (pc' := 1010) at_L_1009 rfl rfl ?_
  refine w_iconst (pc' := 1011) 2 at_L_1010 rfl ic_2 ?_
  refine w_iadd (pc' := 1012) at_L_1011 rfl ?_
  rw [show nI (i) + (2 : Int32) = nI (i + 2) from nI_add _ _]
  refine w_ialdR (j := i + 2) (pc' := 1013) at_L_1012 rfl (by decide) rfl rfl h2 (by omega) ?_
  skip
  refine w_aload_n (pc' := 1014) at_L_1013 rfl rfl rfl ?_
  refine w_iload_n (pc' := 1015) at_L_1014 rfl rfl ?_
  refine w_iconst (pc' := 1016) 3 at_L_1015 rfl ic_3 ?_
  refine w_iadd (pc' := 1017) at_L_1016 rfl ?_
  rw [show nI (i) + (3 : Int32) = nI (i + 3) from nI_add _ _]
  refine w_ialdR (j := i + 3) (pc' := 1018) at_L_1017 rfl (by decide) rfl rfl h3 (by omega) ?_
  skip
  refine w_cV3i (pc' := 1021) (v_k_tape xs hC hK.1 v1 v2 v3) (by decide) at_L_1018 rfl rfl (Nat.le_of_ble_eq_true rfl) sh_0 rfl (fun m1 hm' => ?_)
  obtain ⟨hC1, hF1⟩ := hm'
  refine w_aload_n (pc' := 1022) at_L_1021 rfl rfl rfl ?_
  refine w_aload_n (pc' := 1023) at_L_1022 rfl rfl rfl ?_
  refine w_iload_n (pc' := 1024) at_L_1023 rfl rfl ?_
  refine w_iconst (pc' := 1025) 1 at_L_1024 rfl ic_1 ?_
  refine w_iadd (pc' := 1026) at_L_1025 rfl ?_
  rw [show nI (i) + (1 : Int32) = nI (i + 1) from nI_add _ _]
  refine w_ialdR (j := i + 1) (pc' := 1027) at_L_1026 rfl (by decide) rfl rfl h1 (by omega) ?_
  skip
  refine w_aload_n (pc' := 1028) at_L_1027 rfl rfl rfl ?_
  refine w_iload_n (pc' := 1029) at_L_1028 rfl rfl ?_
  refine w_iconst (pc' := 1030) 2 at_L_1029 rfl ic_2 ?_
  refine w_iadd (pc' := 1031) at_L_1030 rfl ?_
  rw [show nI (i) + (2 : Int32) = nI (i + 2) from nI_add _ _]
  refine w_ialdR (j := i + 2) (pc' := 1032) at_L_1031 rfl (by decide) rfl rfl h2 (by omega) ?_
  skip
  refine w_aload_n (pc' := 1033) at_L_1032 rfl rfl rfl ?_
  refine w_iload_n (pc' := 1034) at_L_1033 rfl rfl ?_
  refine w_iconst (pc' := 1035) 3 at_L_1034 rfl ic_3 ?_
  refine w_iadd (pc' := 1036) at_L_1035 rfl ?_
  rw [show nI (i) + (3 : Int32) = nI (i + 3) from nI_add _ _]
  refine w_ialdR (j := i + 3) (pc' := 1037) at_L_1036 rfl (by decide) rfl rfl h3 (by omega) ?_
  skip
  refine w_cV3i (pc' := 1040) (v_m_tape xs (hm.FM hF1) hK.1.1.1.1 v1 v2 v3) (by decide) at_L_1037 rfl rfl (Nat.le_of_ble_eq_true rfl) sh_153 rfl (fun m2 hm' => ?_)
  obtain ⟨hm2, hG2⟩ := hm'
  refine w_ic_eq (t := 1215) (pc' := 1043) at_L_1040 (by decide) rfl (fun h1040 => ?_) (fun h1040 => ?_)
  · exact k _ _ hm2 (lw_nx hC1 hG2 (i_tape hK v1 v2 v3)) (i_tape hK v1 v2 v3)
  · exact absurd rfl h1040
set_option maxRecDepth 100000 in
set_option maxHeartbeats 4000000 in
theorem lc_item (xs : List Int32) {T : q_T} {m : am_Mm} (hm : q_Rm T m) (hC : q_Rc T m) (hK : q_Kp T) {i : Nat} {v1 : Int32} {v2 : Int32} {v3 : Int32} {v4 : Int32} (h1 : xs[i + 1]? = some v1) (h2 : xs[i + 2]? = some v2) (h3 : xs[i + 3]? = some v3) (h4 : xs[i + 4]? = some v4) (hi : i < 4000) {Q : am_Q} (k : ∀ (T' : q_T) (m' : am_Mm), q_Rm T' m' → q_Rc T' m' → q_Kp T' → am_P xs 40 L_law 1215 [some (.ref 1000202), some (.ref 0), some (.ref 153), some (.int (nI i))] [] m' Q) : am_P xs 40 L_law 1045 [some (.ref 1000202), some (.ref 0), some (.ref 153), some (.int (nI i))] [] m Q := by
  refine w_aload_n (pc' := 1046) at_L_1045 rfl rfl rfl ?_
  refine w_aload_n (pc' := 1047) at_L_1046 rfl rfl rfl ?_
  refine w_iload_n (pc' := 1048) at_L_1047 rfl rfl ?_
  refine w_iconst (pc' := 1049) 1 at_L_1048 rfl ic_1 ?_
  refine w_iadd (pc' := 1050) at_L_1049 rfl ?_
  rw [show nI (i) + (1 : Int32) = nI (i + 1) from nI_add _ _]
  refine w_ialdR (j := i + 1) (pc' := 1051) at_L_1050 rfl (by decide) rfl rfl h1 (by omega) ?_
  skip
  refine w_aload_n (pc' := 1052) at_L_1051 rfl rfl rfl ?_
  refine w_iload_n (pc' := 1053) at_L_1052 rfl rfl ?_
  refine w_iconst (pc' := 1054) 2 at_L_1053 rfl ic_2 ?_
  refine w_iadd (pc' := 1055) at_L_1054 rfl ?_
  rw [show nI (i) + (2 : Int32) = nI (i + 2) from nI_add _ _]
  refine w_ialdR (j := i + 2) (pc' := 1056) at_L_1055 rfl (by decide) rfl rfl h2 (by omega) ?_
  skip
  refine w_aload_n (pc' := 1057) at_L_1056 rfl rfl rfl ?_
  refine w_iload_n (pc' := 1058) at_L_1057 rfl rfl ?_
  refine w_iconst (pc' := 1059) 3 at_L_1058 rfl ic_3 ?_
  refine w_iadd (pc' := 1060) at_L_1059 rfl ?_
  rw [show nI (i) + (3 : Int32) = nI (i + 3) from nI_add _ _]
  refine w_ialdR (j := i + 3) (pc' := 1061) at_L_1060 rfl (by decide) rfl rfl h3 (by omega) ?_
  skip
  refine w_i2l (pc' := 1062) at_L_1061 rfl ?_
  refine w_bipush (pc' := 1064) 32 at_L_1062 rfl bp_32 ?_
  refine w_lshl (pc' := 1065) at_L_1064 rfl ?_
  refine w_aload_n (pc' := 1066) at_L_1065 rfl rfl rfl ?_
  refine w_iload_n (pc' := 1067) at_L_1066 rfl rfl ?_
  refine w_iconst (pc' := 1068) 4 at_L_1067 rfl ic_4 ?_
  refine w_iadd (pc' := 1069) at_L_1068 rfl ?_
  rw [show nI (i) + (4 : Int32) = nI (i + 4) from nI_add _ _]
  refine w_ialdR (j := i + 4) (pc' := 1070) at_L_1069 rfl (by decide) rfl rfl h4 (by omega) ?_
  skip
  refine w_i2l (pc' := 1071) at_L_1070 rfl ?_
  refine w_ldc2_w (pc' := 1074) at_L_1071 rfl rfl rfl ?_
  refine w_land (pc' := 1075) at_L_1074 rfl ?_
  refine w_lor (pc' := 1076) at_L_1075 rfl ?_
  refine w_cV3i (pc' := 1079) (v_k_item xs hC hK.1 v1 v2 _) (by decide) at_L_1076 rfl rfl (Nat.le_of_ble_eq_true rfl) sh_0 rfl (fun m1 hm' => ?_)
  obtain ⟨hC1, hF1⟩ := hm'
  refine w_aload_n (pc' := 1080) at_L_1079 rfl rfl rfl ?_
  refine w_aload_n (pc' := 1081) at_L_1080 rfl rfl rfl ?_
  refine w_iload_n (pc' := 1082) at_L_1081 rfl rfl ?_
  refine w_iconst (pc' := 1083) 1 at_L_1082 rfl ic_1 ?_
  refine w_iadd (pc' := 1084) at_L_1083 rfl ?_
  rw [show nI (i) + (1 : Int32) = nI (i + 1) from nI_add _ _]
  refine w_ialdR (j := i + 1) (pc' := 1085) at_L_1084 rfl (by decide) rfl rfl h1 (by omega) ?_
  skip
  refine w_aload_n (pc' := 1086) at_L_1085 rfl rfl rfl ?_
  refine w_iload_n (pc' := 1087) at_L_1086 rfl rfl ?_
  refine w_iconst (pc' := 1088) 2 at_L_1087 rfl ic_2 ?_
  refine w_iadd (pc' := 1089) at_L_1088 rfl ?_
  rw [show nI (i) + (2 : Int32) = nI (i + 2) from nI_add _ _]
  refine w_ialdR (j := i + 2) (pc' := 1090) at_L_1089 rfl (by decide) rfl rfl h2 (by omega) ?_
  skip
  refine w_aload_n (pc' := 1091) at_L_1090 rfl rfl rfl ?_
  refine w_iload_n (pc' := 1092) at_L_1091 rfl rfl ?_
  refine w_iconst (pc' := 1093) 3 at_L_1092 rfl ic_3 ?_
  refine w_iadd (pc' := 1094) at_L_1093 rfl ?_
  rw [show nI (i) + (3 : Int32) = nI (i + 3) from nI_add _ _]
  refine w_ialdR (j := i + 3) (pc' := 1095) at_L_1094 rfl (by decide) rfl rfl h3 (by omega) ?_
  skip
  refine w_i2l (pc' := 1096) at_L_1095 rfl ?_
  refine w_bipush (pc' := 1098) 32 at_L_1096 rfl bp_32 ?_
  refine w_lshl (pc' := 1099) at_L_1098 rfl ?_
  refine w_aload_n (pc' := 1100) at_L_1099 rfl rfl rfl ?_
  refine w_iload_n (pc' := 1101) at_L_1100 rfl rfl ?_
  refine w_iconst (pc' := 1102) 4 at_L_1101 rfl ic_4 ?_
  refine w_iadd (pc' := 1103) at_L_1102 rfl ?_
  rw [show nI (i) + (4 : Int32) = nI (i + 4) from nI_add _ _]
  refine w_ialdR (j := i + 4) (pc' := 1104) at_L_1103 rfl (by decide) rfl rfl h4 (by omega) ?_
  skip
  refine w_i2l (pc' := 1105) at_L_1104 rfl ?_
  refine w_ldc2_w (pc' := 1108) at_L_1105 rfl rfl rfl ?_
  refine w_land (pc' := 1109) at_L_1108 rfl ?_
  refine w_lor (pc' := 1110) at_L_1109 rfl ?_
  refine w_cV3i (pc' := 1113) (v_m_item xs (hm.FM hF1) hK.1.1.1.1 v1 v2 _) (by decide) at_L_1110 rfl rfl (Nat.le_of_ble_eq_true rfl) sh_153 rfl (fun m2 hm' => ?_)
  obtain ⟨hm2, hG2⟩ := hm'
  refine w_ic_eq (t := 1215) (pc' := 1116) at_L_1113 (by decide) rfl (fun h1113 => ?_) (fun h1113 => ?_)
  · exact k _ _ hm2 (lw_nx hC1 hG2 (i_item hK v1 v2 _)) (i_item hK v1 v2 _)
  · exact absurd rfl h1113
set_option maxRecDepth 100000 in
set_option maxHeartbeats 4000000 in
theorem lc_read (xs : List Int32) {T : q_T} {m : am_Mm} (hm : q_Rm T m) (hC : q_Rc T m) (hK : q_Kp T) {i : Nat} {v1 : Int32} {v2 : Int32} (h1 : xs[i + 1]? = some v1) (h2 : xs[i + 2]? = some v2) (hi : i < 4000) {Q : am_Q} (k : ∀ (T' : q_T) (m' : am_Mm), q_Rm T' m' → q_Rc T' m' → q_Kp T' → am_P xs 40 L_law 1215 [some (.ref 1000202), some (.ref 0), some (.ref 153), some (.int (nI i))] [] m' Q) : am_P xs 40 L_law 1118 [some (.ref 1000202), some (.ref 0), some (.ref 153), some (.int (nI i))] [] m Q := by
  refine w_aload_n (pc' := 1119) at_L_1118 rfl rfl rfl ?_
  refine w_aload_n (pc' := 1120) at_L_1119 rfl rfl rfl ?_
  refine w_iload_n (pc' := 1121) at_L_1120 rfl rfl ?_
  refine w_iconst (pc' := 1122) 1 at_L_1121 rfl ic_1 ?_
  refine w_iadd (pc' := 1123) at_L_1122 rfl ?_
  rw [show nI (i) + (1 : Int32) = nI (i + 1) from nI_add _ _]
  refine w_ialdR (j := i + 1) (pc' := 1124) at_L_1123 rfl (by decide) rfl rfl h1 (by omega) ?_
  skip
  refine w_aload_n (pc' := 1125) at_L_1124 rfl rfl rfl ?_
  refine w_iload_n (pc' := 1126) at_L_1125 rfl rfl ?_
  refine w_iconst (pc' := 1127) 2 at_L_1126 rfl ic_2 ?_
  refine w_iadd (pc' := 1128) at_L_1127 rfl ?_
  rw [show nI (i) + (2 : Int32) = nI (i + 2) from nI_add _ _]
  refine w_ialdR (j := i + 2) (pc' := 1129) at_L_1128 rfl (by decide) rfl rfl h2 (by omega) ?_
  skip
  refine w_cV2j (pc' := 1132) (v_k_read xs hC hK.1 v1 v2) (by decide) at_L_1129 rfl rfl (Nat.le_of_ble_eq_true rfl) sh_0 rfl (fun m1 hm' => ?_)
  obtain ⟨hC1, hF1⟩ := hm'
  refine w_aload_n (pc' := 1133) at_L_1132 rfl rfl rfl ?_
  refine w_aload_n (pc' := 1134) at_L_1133 rfl rfl rfl ?_
  refine w_iload_n (pc' := 1135) at_L_1134 rfl rfl ?_
  refine w_iconst (pc' := 1136) 1 at_L_1135 rfl ic_1 ?_
  refine w_iadd (pc' := 1137) at_L_1136 rfl ?_
  rw [show nI (i) + (1 : Int32) = nI (i + 1) from nI_add _ _]
  refine w_ialdR (j := i + 1) (pc' := 1138) at_L_1137 rfl (by decide) rfl rfl h1 (by omega) ?_
  skip
  refine w_aload_n (pc' := 1139) at_L_1138 rfl rfl rfl ?_
  refine w_iload_n (pc' := 1140) at_L_1139 rfl rfl ?_
  refine w_iconst (pc' := 1141) 2 at_L_1140 rfl ic_2 ?_
  refine w_iadd (pc' := 1142) at_L_1141 rfl ?_
  rw [show nI (i) + (2 : Int32) = nI (i + 2) from nI_add _ _]
  refine w_ialdR (j := i + 2) (pc' := 1143) at_L_1142 rfl (by decide) rfl rfl h2 (by omega) ?_
  skip
  refine w_cV2j (pc' := 1146) (v_m_read xs (hm.FM hF1) hK.1.1.1.1 v1 v2) (by decide) at_L_1143 rfl rfl (Nat.le_of_ble_eq_true rfl) sh_153 rfl (fun m2 hm' => ?_)
  obtain ⟨hm2, hG2⟩ := hm'
  refine w_lcmp (pc' := 1147) at_L_1146 rfl ?_
  refine w_if_eq (t := 1215) (pc' := 1150) at_L_1147 (by decide) rfl (fun h1147 => ?_) (fun h1147 => ?_)
  · exact k _ _ hm2 (lw_nx hC1 hG2 (i_read hK v1 v2)) (i_read hK v1 v2)
  · exact absurd (lg_cmp_self _) h1147
set_option maxRecDepth 100000 in
set_option maxHeartbeats 4000000 in
theorem lc_shift (xs : List Int32) {T : q_T} {m : am_Mm} (hm : q_Rm T m) (hC : q_Rc T m) (hK : q_Kp T) {i : Nat} {v1 : Int32} {v2 : Int32} {v3 : Int32} {v4 : Int32} {v5 : Int32} (h1 : xs[i + 1]? = some v1) (h2 : xs[i + 2]? = some v2) (h3 : xs[i + 3]? = some v3) (h4 : xs[i + 4]? = some v4) (h5 : xs[i + 5]? = some v5) (hi : i < 4000) {Q : am_Q} (k : ∀ (T' : q_T) (m' : am_Mm), q_Rm T' m' → q_Rc T' m' → q_Kp T' → am_P xs 40 L_law 1215 [some (.ref 1000202), some (.ref 0), some (.ref 153), some (.int (nI i))] [] m' Q) : am_P xs 40 L_law 1152 [some (.ref 1000202), some (.ref 0), some (.ref 153), some (.int (nI i))] [] m Q := by
  refine w_aload_n (pc' := 1153) at_L_1152 rfl rfl rfl ?_
  refine w_aload_n (pc' := 1154) at_L_1153 rfl rfl rfl ?_
  refine w_iload_n (pc' := 1155) at_L_1154 rfl rfl ?_
  refine w_iconst (pc' := 1156) 1 at_L_1155 rfl ic_1 ?_
  refine w_iadd (pc' := 1157) at_L_1156 rfl ?_
  rw [show nI (i) + (1 : Int32) = nI (i + 1) from nI_add _ _]
  refine w_ialdR (j := i + 1) (pc' := 1158) at_L_1157 rfl (by decide) rfl rfl h1 (by omega) ?_
  skip
  refine w_aload_n (pc' := 1159) at_L_1158 rfl rfl rfl ?_
  refine w_iload_n (pc' := 1160) at_L_1159 rfl rfl ?_
  refine w_iconst (pc' := 1161) 2 at_L_1160 rfl ic_2 ?_
  refine w_iadd (pc' := 1162) at_L_1161 rfl ?_
  rw [show nI (i) + (2 : Int32) = nI (i + 2) from nI_add _ _]
  refine w_ialdR (j := i + 2) (pc' := 1163) at_L_1162 rfl (by decide) rfl rfl h2 (by omega) ?_
  skip
  refine w_aload_n (pc' := 1164) at_L_1163 rfl rfl rfl ?_
  refine w_iload_n (pc' := 1165) at_L_1164 rfl rfl ?_
  refine w_iconst (pc' := 1166) 3 at_L_1165 rfl ic_3 ?_
  refine w_iadd (pc' := 1167) at_L_1166 rfl ?_
  rw [show nI (i) + (3 : Int32) = nI (i + 3) from nI_add _ _]
  refine w_ialdR (j := i + 3) (pc' := 1168) at_L_1167 rfl (by decide) rfl rfl h3 (by omega) ?_
  skip
  refine w_aload_n (pc' := 1169) at_L_1168 rfl rfl rfl ?_
  refine w_iload_n (pc' := 1170) at_L_1169 rfl rfl ?_
  refine w_iconst (pc' := 1171) 4 at_L_1170 rfl ic_4 ?_
  refine w_iadd (pc' := 1172) at_L_1171 rfl ?_
  rw [show nI (i) + (4 : Int32) = nI (i + 4) from nI_add _ _]
  refine w_ialdR (j := i + 4) (pc' := 1173) at_L_1172 rfl (by decide) rfl rfl h4 (by omega) ?_
  skip
  refine w_aload_n (pc' := 1174) at_L_1173 rfl rfl rfl ?_
  refine w_iload_n (pc' := 1175) at_L_1174 rfl rfl ?_
  refine w_iconst (pc' := 1176) 5 at_L_1175 rfl ic_5 ?_
  refine w_iadd (pc' := 1177) at_L_1176 rfl ?_
  rw [show nI (i) + (5 : Int32) = nI (i + 5) from nI_add _ _]
  refine w_ialdR (j := i + 5) (pc' := 1178) at_L_1177 rfl (by decide) rfl rfl h5 (by omega) ?_
  skip
  refine w_cV5i (pc' := 1181) (v_k_shift xs hC hK.1 v1 v2 v3 v4 v5) (by decide) at_L_1178 rfl rfl (Nat.le_of_ble_eq_true rfl) sh_0 rfl (fun m1 hm' => ?_)
  obtain ⟨hC1, hF1⟩ := hm'
  refine w_aload_n (pc' := 1182) at_L_1181 rfl rfl rfl ?_
  refine w_aload_n (pc' := 1183) at_L_1182 rfl rfl rfl ?_
  refine w_iload_n (pc' := 1184) at_L_1183 rfl rfl ?_
  refine w_iconst (pc' := 1185) 1 at_L_1184 rfl ic_1 ?_
  refine w_iadd (pc' := 1186) at_L_1185 rfl ?_
  rw [show nI (i) + (1 : Int32) = nI (i + 1) from nI_add _ _]
  refine w_ialdR (j := i + 1) (pc' := 1187) at_L_1186 rfl (by decide) rfl rfl h1 (by omega) ?_
  skip
  refine w_aload_n (pc' := 1188) at_L_1187 rfl rfl rfl ?_
  refine w_iload_n (pc' := 1189) at_L_1188 rfl rfl ?_
  refine w_iconst (pc' := 1190) 2 at_L_1189 rfl ic_2 ?_
  refine w_iadd (pc' := 1191) at_L_1190 rfl ?_
  rw [show nI (i) + (2 : Int32) = nI (i + 2) from nI_add _ _]
  refine w_ialdR (j := i + 2) (pc' := 1192) at_L_1191 rfl (by decide) rfl rfl h2 (by omega) ?_
  skip
  refine w_aload_n (pc' := 1193) at_L_1192 rfl rfl rfl ?_
  refine w_iload_n (pc' := 1194) at_L_1193 rfl rfl ?_
  refine w_iconst (pc' := 1195) 3 at_L_1194 rfl ic_3 ?_
  refine w_iadd (pc' := 1196) at_L_1195 rfl ?_
  rw [show nI (i) + (3 : Int32) = nI (i + 3) from nI_add _ _]
  refine w_ialdR (j := i + 3) (pc' := 1197) at_L_1196 rfl (by decide) rfl rfl h3 (by omega) ?_
  skip
  refine w_aload_n (pc' := 1198) at_L_1197 rfl rfl rfl ?_
  refine w_iload_n (pc' := 1199) at_L_1198 rfl rfl ?_
  refine w_iconst (pc' := 1200) 4 at_L_1199 rfl ic_4 ?_
  refine w_iadd (pc' := 1201) at_L_1200 rfl ?_
  rw [show nI (i) + (4 : Int32) = nI (i + 4) from nI_add _ _]
  refine w_ialdR (j := i + 4) (pc' := 1202) at_L_1201 rfl (by decide) rfl rfl h4 (by omega) ?_
  skip
  refine w_aload_n (pc' := 1203) at_L_1202 rfl rfl rfl ?_
  refine w_iload_n (pc' := 1204) at_L_1203 rfl rfl ?_
  refine w_iconst (pc' := 1205) 5 at_L_1204 rfl ic_5 ?_
  refine w_iadd (pc' := 1206) at_L_1205 rfl ?_
  rw [show nI (i) + (5 : Int32) = nI (i + 5) from nI_add _ _]
  refine w_ialdR (j := i + 5) (pc' := 1207) at_L_1206 rfl (by decide) rfl rfl h5 (by omega) ?_
  skip
  refine w_cV5i (pc' := 1210) (v_m_shift xs (hm.FM hF1) hK.1.1.1.1 v1 v2 v3 v4 v5) (by decide) at_L_1207 rfl rfl (Nat.le_of_ble_eq_true rfl) sh_153 rfl (fun m2 hm' => ?_)
  obtain ⟨hm2, hG2⟩ := hm'
  refine w_ic_eq (t := 1215) (pc' := 1213) at_L_1210 (by decide) rfl (fun h1210 => ?_) (fun h1210 => ?_)
  · exact k _ _ hm2 (lw_nx hC1 hG2 (i_shift hK v1 v2 v3 v4 v5)) (i_shift hK v1 v2 v3 v4 v5)
  · exact absurd rfl h1210
