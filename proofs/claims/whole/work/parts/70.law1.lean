/-! ===== the law: its cases ===== -/
section LAW
variable {L : Nat} {xs : Nat → Int32} {i : Int} {w : vWd}
set_option maxRecDepth 100000 in
theorem lw_c0 (hL : L ≤ 2560) (hi : 0 ≤ i ∧ i + 5 ≤ L) (h : LI w) (K : ∀ w', LI w' → VX L xs 955 [some (.retAddr 11), some (.ref 0), some (.ref 99), some (vI i)] [] 111 w' 111 48738) : VX L xs 168 [some (.retAddr 11), some (.ref 0), some (.ref 99), some (vI i)] [] 111 w 111 48738 := by
  obtain ⟨n, now, ca, po, fo, rs, S0, S1, k0, k1, rb, rn, rf, tx, hX, hM, hG, hG0, hG1, hby⟩ := h
  obtain ⟨_, _, _, _, _, _, hk0, hk1, _, _⟩ := hM.2.2.2.1
  refine VX_aload_n (pc := 168) dL_law_168 rfl ?_
  refine VX_aload_nS (pc := 169) dL_law_169 rfl ?_
  refine VX_iload_n (pc := 170) dL_law_170 rfl ?_
  refine VX_iconst (pc := 171) dL_law_171 ?_
  refine VX_iadd (pc := 172) dL_law_172 ?_
  refine VX_sld (pc := 173) hL ⟨by omega, by omega⟩ dL_law_173 ?_
  apply VX_vI (pc := 174) dL_law_174 ok_X5_wall ov_X5_wall ln_L_13 (cx_wall hX (sc_R _ _) hG.1)
  · exact hX.1
  · rfl
  · rfl
  · rfl
  · rfl
  · rfl
  rintro z1 w1 ⟨rfl, g1, f1⟩
  have M1 := hM.keepX f1
  obtain ⟨a0, sp, tk, vl, mn, fd, sv, ho⟩ := M1.2.1
  refine VX_aload_n (pc := 177) dL_law_177 rfl ?_
  refine VX_aload_nS (pc := 178) dL_law_178 rfl ?_
  refine VX_iload_n (pc := 179) dL_law_179 rfl ?_
  refine VX_iconst (pc := 180) dL_law_180 ?_
  refine VX_iadd (pc := 181) dL_law_181 ?_
  refine VX_sld (pc := 182) hL ⟨by omega, by omega⟩ dL_law_182 ?_
  apply VX_vI (pc := 183) dL_law_183 ok_X6_wall ov_X6_wall ln_L_17 (M1.lift (cm_wall M1.1 hG.1 (sc_R _ _)))
  · exact ho
  · rfl
  · rfl
  · rfl
  · rfl
  · rfl
  rintro z2 w2 ⟨rfl, g2, f2⟩
  have X2 := g1.keepM f2
  refine VX_same (tgt := 955) (pc := 186) dL_law_186 (by decide) ?_
  exact K w2 (LI.mk X2 g2 (hG.wall _) hG0 hG1 hby)
set_option maxRecDepth 100000 in
theorem lw_c1 (hL : L ≤ 2560) (hi : 0 ≤ i ∧ i + 5 ≤ L) (h : LI w) (K : ∀ w', LI w' → VX L xs 955 [some (.retAddr 11), some (.ref 0), some (.ref 99), some (vI i)] [] 111 w' 111 48738) : VX L xs 191 [some (.retAddr 11), some (.ref 0), some (.ref 99), some (vI i)] [] 111 w 111 48738 := by
  obtain ⟨n, now, ca, po, fo, rs, S0, S1, k0, k1, rb, rn, rf, tx, hX, hM, hG, hG0, hG1, hby⟩ := h
  obtain ⟨_, _, _, _, _, _, hk0, hk1, _, _⟩ := hM.2.2.2.1
  refine VX_aload_n (pc := 191) dL_law_191 rfl ?_
  refine VX_aload_nS (pc := 192) dL_law_192 rfl ?_
  refine VX_iload_n (pc := 193) dL_law_193 rfl ?_
  refine VX_iconst (pc := 194) dL_law_194 ?_
  refine VX_iadd (pc := 195) dL_law_195 ?_
  refine VX_sld (pc := 196) hL ⟨by omega, by omega⟩ dL_law_196 ?_
  refine VX_aload_nS (pc := 197) dL_law_197 rfl ?_
  refine VX_iload_n (pc := 198) dL_law_198 rfl ?_
  refine VX_iconst (pc := 199) dL_law_199 ?_
  refine VX_iadd (pc := 200) dL_law_200 ?_
  refine VX_sld (pc := 201) hL ⟨by omega, by omega⟩ dL_law_201 ?_
  refine VX_aload_nS (pc := 202) dL_law_202 rfl ?_
  refine VX_iload_n (pc := 203) dL_law_203 rfl ?_
  refine VX_iconst (pc := 204) dL_law_204 ?_
  refine VX_iadd (pc := 205) dL_law_205 ?_
  refine VX_sld (pc := 206) hL ⟨by omega, by omega⟩ dL_law_206 ?_
  refine VX_aload_nS (pc := 207) dL_law_207 rfl ?_
  refine VX_iload_n (pc := 208) dL_law_208 rfl ?_
  refine VX_iconst (pc := 209) dL_law_209 ?_
  refine VX_iadd (pc := 210) dL_law_210 ?_
  refine VX_sld (pc := 211) hL ⟨by omega, by omega⟩ dL_law_211 ?_
  apply VX_vI (pc := 212) dL_law_212 ok_X5_cord ov_X5_cord ln_L_18 (cx_cord hX (sc_R _ _) (sc_R _ _) (sc_R _ _) (sc_R _ _) hG.1 hG.2.2.2.2.2.2.1.1)
  · exact hX.1
  · rfl
  · rfl
  · rfl
  · rfl
  · rfl
  rintro z1 w1 ⟨rfl, g1, f1⟩
  have M1 := hM.keepX f1
  obtain ⟨a0, sp, tk, vl, mn, fd, sv, ho⟩ := M1.2.1
  refine VX_aload_n (pc := 215) dL_law_215 rfl ?_
  refine VX_aload_nS (pc := 216) dL_law_216 rfl ?_
  refine VX_iload_n (pc := 217) dL_law_217 rfl ?_
  refine VX_iconst (pc := 218) dL_law_218 ?_
  refine VX_iadd (pc := 219) dL_law_219 ?_
  refine VX_sld (pc := 220) hL ⟨by omega, by omega⟩ dL_law_220 ?_
  refine VX_aload_nS (pc := 221) dL_law_221 rfl ?_
  refine VX_iload_n (pc := 222) dL_law_222 rfl ?_
  refine VX_iconst (pc := 223) dL_law_223 ?_
  refine VX_iadd (pc := 224) dL_law_224 ?_
  refine VX_sld (pc := 225) hL ⟨by omega, by omega⟩ dL_law_225 ?_
  refine VX_aload_nS (pc := 226) dL_law_226 rfl ?_
  refine VX_iload_n (pc := 227) dL_law_227 rfl ?_
  refine VX_iconst (pc := 228) dL_law_228 ?_
  refine VX_iadd (pc := 229) dL_law_229 ?_
  refine VX_sld (pc := 230) hL ⟨by omega, by omega⟩ dL_law_230 ?_
  refine VX_aload_nS (pc := 231) dL_law_231 rfl ?_
  refine VX_iload_n (pc := 232) dL_law_232 rfl ?_
  refine VX_iconst (pc := 233) dL_law_233 ?_
  refine VX_iadd (pc := 234) dL_law_234 ?_
  refine VX_sld (pc := 235) hL ⟨by omega, by omega⟩ dL_law_235 ?_
  apply VX_vI (pc := 236) dL_law_236 ok_X6_cord ov_X6_cord ln_L_22 (M1.lift (cm_cord M1.1 hG (sc_R _ _) (sc_R _ _) (sc_R _ _) (sc_R _ _)))
  · exact ho
  · rfl
  · rfl
  · rfl
  · rfl
  · rfl
  rintro z2 w2 ⟨rfl, g2, f2⟩
  have X2 := g1.keepM f2
  refine VX_same (tgt := 955) (pc := 239) dL_law_239 (by decide) ?_
  exact K w2 (LI.mk X2 g2 (hG.cord _ _ _ _) hG0 hG1 hby)
set_option maxRecDepth 100000 in
theorem lw_c2a (hL : L ≤ 2560) (hi : 0 ≤ i ∧ i + 5 ≤ L) (hx2 : sc xs (i + 2) = 0) (h : LI w) (K : ∀ w', LI w' → VX L xs 955 [some (.retAddr 11), some (.ref 0), some (.ref 99), some (vI i)] [] 111 w' 111 48738) : VX L xs 244 [some (.retAddr 11), some (.ref 0), some (.ref 99), some (vI i)] [] 111 w 111 48738 := by
  obtain ⟨n, now, ca, po, fo, rs, S0, S1, k0, k1, rb, rn, rf, tx, hX, hM, hG, hG0, hG1, hby⟩ := h
  obtain ⟨_, _, _, _, _, _, hk0, hk1, _, _⟩ := hM.2.2.2.1
  refine VX_aload_n (pc := 244) dL_law_244 rfl ?_
  refine VX_aload_nS (pc := 245) dL_law_245 rfl ?_
  refine VX_iload_n (pc := 246) dL_law_246 rfl ?_
  refine VX_iconst (pc := 247) dL_law_247 ?_
  refine VX_iadd (pc := 248) dL_law_248 ?_
  refine VX_sld (pc := 249) hL ⟨by omega, by omega⟩ dL_law_249 ?_
  refine VX_aload_nS (pc := 250) dL_law_250 rfl ?_
  refine VX_iload_n (pc := 251) dL_law_251 rfl ?_
  refine VX_iconst (pc := 252) dL_law_252 ?_
  refine VX_iadd (pc := 253) dL_law_253 ?_
  refine VX_sld (pc := 254) hL ⟨by omega, by omega⟩ dL_law_254 ?_
  refine VX_if_eq (tgt := 262) (pc := 255) dL_law_255 (by decide) (sc_R _ _) (fun _ => ?_) (fun q => absurd hx2 q)
  refine VX_iconst (pc := 262) dL_law_262 ?_
  apply VX_vI (pc := 263) dL_law_263 ok_X5_caught ov_X5_caught ln_L_23 (cx_caught (y := 0) hX (sc_R _ _) (by omega) hG.1 hG.2.2.1)
  · exact hX.1
  · rfl
  · rfl
  · rfl
  · rfl
  · rfl
  rintro z1 w1 ⟨rfl, g1, f1⟩
  have M1 := hM.keepX f1
  obtain ⟨a0, sp, tk, vl, mn, fd, sv, ho⟩ := M1.2.1
  refine VX_aload_n (pc := 266) dL_law_266 rfl ?_
  refine VX_aload_nS (pc := 267) dL_law_267 rfl ?_
  refine VX_iload_n (pc := 268) dL_law_268 rfl ?_
  refine VX_iconst (pc := 269) dL_law_269 ?_
  refine VX_iadd (pc := 270) dL_law_270 ?_
  refine VX_sld (pc := 271) hL ⟨by omega, by omega⟩ dL_law_271 ?_
  refine VX_aload_nS (pc := 272) dL_law_272 rfl ?_
  refine VX_iload_n (pc := 273) dL_law_273 rfl ?_
  refine VX_iconst (pc := 274) dL_law_274 ?_
  refine VX_iadd (pc := 275) dL_law_275 ?_
  refine VX_sld (pc := 276) hL ⟨by omega, by omega⟩ dL_law_276 ?_
  refine VX_if_eq (tgt := 284) (pc := 277) dL_law_277 (by decide) (sc_R _ _) (fun _ => ?_) (fun q => absurd hx2 q)
  refine VX_iconst (pc := 284) dL_law_284 ?_
  apply VX_vI (pc := 285) dL_law_285 ok_X6_caught ov_X6_caught ln_L_27 (M1.lift (cm_caught (z := 0) M1.1 hG (sc_R _ _) (by omega)))
  · exact ho
  · rfl
  · rfl
  · rfl
  · rfl
  · rfl
  rintro z2 w2 ⟨rfl, g2, f2⟩
  have X2 := g1.keepM f2
  refine VX_same (tgt := 955) (pc := 288) dL_law_288 (by decide) ?_
  exact K w2 (LI.mk X2 g2 (hG.catch1 _ _) hG0 hG1 hby)
set_option maxRecDepth 100000 in
theorem lw_c2b (hL : L ≤ 2560) (hi : 0 ≤ i ∧ i + 5 ≤ L) (hx2 : ¬ sc xs (i + 2) = 0) (h : LI w) (K : ∀ w', LI w' → VX L xs 955 [some (.retAddr 11), some (.ref 0), some (.ref 99), some (vI i)] [] 111 w' 111 48738) : VX L xs 244 [some (.retAddr 11), some (.ref 0), some (.ref 99), some (vI i)] [] 111 w 111 48738 := by
  obtain ⟨n, now, ca, po, fo, rs, S0, S1, k0, k1, rb, rn, rf, tx, hX, hM, hG, hG0, hG1, hby⟩ := h
  obtain ⟨_, _, _, _, _, _, hk0, hk1, _, _⟩ := hM.2.2.2.1
  refine VX_aload_n (pc := 244) dL_law_244 rfl ?_
  refine VX_aload_nS (pc := 245) dL_law_245 rfl ?_
  refine VX_iload_n (pc := 246) dL_law_246 rfl ?_
  refine VX_iconst (pc := 247) dL_law_247 ?_
  refine VX_iadd (pc := 248) dL_law_248 ?_
  refine VX_sld (pc := 249) hL ⟨by omega, by omega⟩ dL_law_249 ?_
  refine VX_aload_nS (pc := 250) dL_law_250 rfl ?_
  refine VX_iload_n (pc := 251) dL_law_251 rfl ?_
  refine VX_iconst (pc := 252) dL_law_252 ?_
  refine VX_iadd (pc := 253) dL_law_253 ?_
  refine VX_sld (pc := 254) hL ⟨by omega, by omega⟩ dL_law_254 ?_
  refine VX_if_eq (tgt := 262) (pc := 255) dL_law_255 (by decide) (sc_R _ _) (fun q => absurd q hx2) (fun _ => ?_)
  refine VX_iconst (pc := 258) dL_law_258 ?_
  refine VX_goto (tgt := 263) (pc := 259) dL_law_259 (by decide) ?_
  apply VX_vI (pc := 263) dL_law_263 ok_X5_caught ov_X5_caught ln_L_23 (cx_caught (y := 1) hX (sc_R _ _) (by omega) hG.1 hG.2.2.1)
  · exact hX.1
  · rfl
  · rfl
  · rfl
  · rfl
  · rfl
  rintro z1 w1 ⟨rfl, g1, f1⟩
  have M1 := hM.keepX f1
  obtain ⟨a0, sp, tk, vl, mn, fd, sv, ho⟩ := M1.2.1
  refine VX_aload_n (pc := 266) dL_law_266 rfl ?_
  refine VX_aload_nS (pc := 267) dL_law_267 rfl ?_
  refine VX_iload_n (pc := 268) dL_law_268 rfl ?_
  refine VX_iconst (pc := 269) dL_law_269 ?_
  refine VX_iadd (pc := 270) dL_law_270 ?_
  refine VX_sld (pc := 271) hL ⟨by omega, by omega⟩ dL_law_271 ?_
  refine VX_aload_nS (pc := 272) dL_law_272 rfl ?_
  refine VX_iload_n (pc := 273) dL_law_273 rfl ?_
  refine VX_iconst (pc := 274) dL_law_274 ?_
  refine VX_iadd (pc := 275) dL_law_275 ?_
  refine VX_sld (pc := 276) hL ⟨by omega, by omega⟩ dL_law_276 ?_
  refine VX_if_eq (tgt := 284) (pc := 277) dL_law_277 (by decide) (sc_R _ _) (fun q => absurd q hx2) (fun _ => ?_)
  refine VX_iconst (pc := 280) dL_law_280 ?_
  refine VX_goto (tgt := 285) (pc := 281) dL_law_281 (by decide) ?_
  apply VX_vI (pc := 285) dL_law_285 ok_X6_caught ov_X6_caught ln_L_27 (M1.lift (cm_caught (z := 1) M1.1 hG (sc_R _ _) (by omega)))
  · exact ho
  · rfl
  · rfl
  · rfl
  · rfl
  · rfl
  rintro z2 w2 ⟨rfl, g2, f2⟩
  have X2 := g1.keepM f2
  refine VX_same (tgt := 955) (pc := 288) dL_law_288 (by decide) ?_
  exact K w2 (LI.mk X2 g2 (hG.catch1 _ _) hG0 hG1 hby)
theorem lw_c2 (hL : L ≤ 2560) (hi : 0 ≤ i ∧ i + 5 ≤ L) (h : LI w) (K : ∀ w', LI w' → VX L xs 955 [some (.retAddr 11), some (.ref 0), some (.ref 99), some (vI i)] [] 111 w' 111 48738) : VX L xs 244 [some (.retAddr 11), some (.ref 0), some (.ref 99), some (vI i)] [] 111 w 111 48738 := by
  by_cases q : sc xs (i + 2) = 0
  · exact lw_c2a hL hi q h K
  · exact lw_c2b hL hi q h K
set_option maxRecDepth 100000 in
theorem lw_c3 (hL : L ≤ 2560) (hi : 0 ≤ i ∧ i + 5 ≤ L) (h : LI w) (K : ∀ w', LI w' → VX L xs 955 [some (.retAddr 11), some (.ref 0), some (.ref 99), some (vI i)] [] 111 w' 111 48738) : VX L xs 293 [some (.retAddr 11), some (.ref 0), some (.ref 99), some (vI i)] [] 111 w 111 48738 := by
  obtain ⟨n, now, ca, po, fo, rs, S0, S1, k0, k1, rb, rn, rf, tx, hX, hM, hG, hG0, hG1, hby⟩ := h
  obtain ⟨_, _, _, _, _, _, hk0, hk1, _, _⟩ := hM.2.2.2.1
  refine VX_aload_n (pc := 293) dL_law_293 rfl ?_
  refine VX_aload_nS (pc := 294) dL_law_294 rfl ?_
  refine VX_iload_n (pc := 295) dL_law_295 rfl ?_
  refine VX_iconst (pc := 296) dL_law_296 ?_
  refine VX_iadd (pc := 297) dL_law_297 ?_
  refine VX_sld (pc := 298) hL ⟨by omega, by omega⟩ dL_law_298 ?_
  refine VX_aload_nS (pc := 299) dL_law_299 rfl ?_
  refine VX_iload_n (pc := 300) dL_law_300 rfl ?_
  refine VX_iconst (pc := 301) dL_law_301 ?_
  refine VX_iadd (pc := 302) dL_law_302 ?_
  refine VX_sld (pc := 303) hL ⟨by omega, by omega⟩ dL_law_303 ?_
  apply VX_vI (pc := 304) dL_law_304 ok_X5_good ov_X5_good ln_L_28 (cx_good hX (sc_R _ _) (sc_R _ _) hG.1 hG.2.2.2.2.2.1)
  · exact hX.1
  · rfl
  · rfl
  · rfl
  · rfl
  · rfl
  rintro z1 w1 ⟨rfl, g1, f1⟩
  have M1 := hM.keepX f1
  obtain ⟨a0, sp, tk, vl, mn, fd, sv, ho⟩ := M1.2.1
  refine VX_aload_n (pc := 307) dL_law_307 rfl ?_
  refine VX_aload_nS (pc := 308) dL_law_308 rfl ?_
  refine VX_iload_n (pc := 309) dL_law_309 rfl ?_
  refine VX_iconst (pc := 310) dL_law_310 ?_
  refine VX_iadd (pc := 311) dL_law_311 ?_
  refine VX_sld (pc := 312) hL ⟨by omega, by omega⟩ dL_law_312 ?_
  refine VX_aload_nS (pc := 313) dL_law_313 rfl ?_
  refine VX_iload_n (pc := 314) dL_law_314 rfl ?_
  refine VX_iconst (pc := 315) dL_law_315 ?_
  refine VX_iadd (pc := 316) dL_law_316 ?_
  refine VX_sld (pc := 317) hL ⟨by omega, by omega⟩ dL_law_317 ?_
  apply VX_vI (pc := 318) dL_law_318 ok_X6_good ov_X6_good ln_L_32 (M1.lift (cm_good M1.1 hG (sc_R _ _) (sc_R _ _)))
  · exact ho
  · rfl
  · rfl
  · rfl
  · rfl
  · rfl
  rintro z2 w2 ⟨rfl, g2, f2⟩
  have X2 := g1.keepM f2
  refine VX_same (tgt := 955) (pc := 321) dL_law_321 (by decide) ?_
  exact K w2 (LI.mk X2 g2 (hG.good1 _ _) hG0 hG1 hby)
set_option maxRecDepth 100000 in
theorem lw_c4 (hL : L ≤ 2560) (hi : 0 ≤ i ∧ i + 5 ≤ L) (h : LI w) (K : ∀ w', LI w' → VX L xs 955 [some (.retAddr 11), some (.ref 0), some (.ref 99), some (vI i)] [] 111 w' 111 48738) : VX L xs 326 [some (.retAddr 11), some (.ref 0), some (.ref 99), some (vI i)] [] 111 w 111 48738 := by
  obtain ⟨n, now, ca, po, fo, rs, S0, S1, k0, k1, rb, rn, rf, tx, hX, hM, hG, hG0, hG1, hby⟩ := h
  obtain ⟨_, _, _, _, _, _, hk0, hk1, _, _⟩ := hM.2.2.2.1
  refine VX_aload_n (pc := 326) dL_law_326 rfl ?_
  refine VX_aload_nS (pc := 327) dL_law_327 rfl ?_
  refine VX_iload_n (pc := 328) dL_law_328 rfl ?_
  refine VX_iconst (pc := 329) dL_law_329 ?_
  refine VX_iadd (pc := 330) dL_law_330 ?_
  refine VX_sld (pc := 331) hL ⟨by omega, by omega⟩ dL_law_331 ?_
  refine VX_aload_nS (pc := 332) dL_law_332 rfl ?_
  refine VX_iload_n (pc := 333) dL_law_333 rfl ?_
  refine VX_iconst (pc := 334) dL_law_334 ?_
  refine VX_iadd (pc := 335) dL_law_335 ?_
  refine VX_sld (pc := 336) hL ⟨by omega, by omega⟩ dL_law_336 ?_
  apply VX_vI (pc := 337) dL_law_337 ok_X5_put ov_X5_put ln_L_33 (cx_put hX (sc_R _ _) (sc_R _ _))
  · exact hX.1
  · rfl
  · rfl
  · rfl
  · rfl
  · rfl
  rintro z1 w1 ⟨rfl, g1, f1⟩
  have M1 := hM.keepX f1
  obtain ⟨a0, sp, tk, vl, mn, fd, sv, ho⟩ := M1.2.1
  refine VX_aload_n (pc := 340) dL_law_340 rfl ?_
  refine VX_aload_nS (pc := 341) dL_law_341 rfl ?_
  refine VX_iload_n (pc := 342) dL_law_342 rfl ?_
  refine VX_iconst (pc := 343) dL_law_343 ?_
  refine VX_iadd (pc := 344) dL_law_344 ?_
  refine VX_sld (pc := 345) hL ⟨by omega, by omega⟩ dL_law_345 ?_
  refine VX_aload_nS (pc := 346) dL_law_346 rfl ?_
  refine VX_iload_n (pc := 347) dL_law_347 rfl ?_
  refine VX_iconst (pc := 348) dL_law_348 ?_
  refine VX_iadd (pc := 349) dL_law_349 ?_
  refine VX_sld (pc := 350) hL ⟨by omega, by omega⟩ dL_law_350 ?_
  apply VX_vI (pc := 351) dL_law_351 ok_X6_put ov_X6_put ln_L_36 (M1.lift (cm_put M1.1 (sc_R _ _) (sc_R _ _)))
  · exact ho
  · rfl
  · rfl
  · rfl
  · rfl
  · rfl
  rintro z2 w2 ⟨rfl, g2, f2⟩
  have X2 := g1.keepM f2
  refine VX_same (tgt := 955) (pc := 354) dL_law_354 (by decide) ?_
  exact K w2 (LI.mk X2 g2 (hG.put1 _ _) hG0 hG1 hby)
set_option maxRecDepth 100000 in
theorem lw_c5 (hL : L ≤ 2560) (hi : 0 ≤ i ∧ i + 5 ≤ L) (h : LI w) (K : ∀ w', LI w' → VX L xs 955 [some (.retAddr 11), some (.ref 0), some (.ref 99), some (vI i)] [] 111 w' 111 48738) : VX L xs 359 [some (.retAddr 11), some (.ref 0), some (.ref 99), some (vI i)] [] 111 w 111 48738 := by
  obtain ⟨n, now, ca, po, fo, rs, S0, S1, k0, k1, rb, rn, rf, tx, hX, hM, hG, hG0, hG1, hby⟩ := h
  obtain ⟨_, _, _, _, _, _, hk0, hk1, _, _⟩ := hM.2.2.2.1
  refine VX_aload_n (pc := 359) dL_law_359 rfl ?_
  refine VX_aload_nS (pc := 360) dL_law_360 rfl ?_
  refine VX_iload_n (pc := 361) dL_law_361 rfl ?_
  refine VX_iconst (pc := 362) dL_law_362 ?_
  refine VX_iadd (pc := 363) dL_law_363 ?_
  refine VX_sld (pc := 364) hL ⟨by omega, by omega⟩ dL_law_364 ?_
  apply VX_vI (pc := 365) dL_law_365 ok_X5_order ov_X5_order ln_L_37 (cx_order hX (sc_R _ _))
  · exact hX.1
  · rfl
  · rfl
  · rfl
  · rfl
  · rfl
  rintro z1 w1 ⟨rfl, g1, f1⟩
  have M1 := hM.keepX f1
  obtain ⟨a0, sp, tk, vl, mn, fd, sv, ho⟩ := M1.2.1
  refine VX_aload_n (pc := 368) dL_law_368 rfl ?_
  refine VX_aload_nS (pc := 369) dL_law_369 rfl ?_
  refine VX_iload_n (pc := 370) dL_law_370 rfl ?_
  refine VX_iconst (pc := 371) dL_law_371 ?_
  refine VX_iadd (pc := 372) dL_law_372 ?_
  refine VX_sld (pc := 373) hL ⟨by omega, by omega⟩ dL_law_373 ?_
  apply VX_vI (pc := 374) dL_law_374 ok_X6_order ov_X6_order ln_L_40 (M1.lift (cm_order M1.1 (sc_R _ _)))
  · exact ho
  · rfl
  · rfl
  · rfl
  · rfl
  · rfl
  rintro z2 w2 ⟨rfl, g2, f2⟩
  have X2 := g1.keepM f2
  refine VX_same (tgt := 955) (pc := 377) dL_law_377 (by decide) ?_
  exact K w2 (LI.mk X2 g2 (hG.order1 _) hG0 hG1 hby)
set_option maxRecDepth 100000 in
theorem lw_c6 (hL : L ≤ 2560) (hi : 0 ≤ i ∧ i + 5 ≤ L) (h : LI w) (K : ∀ w', LI w' → VX L xs 955 [some (.retAddr 11), some (.ref 0), some (.ref 99), some (vI i)] [] 111 w' 111 48738) : VX L xs 382 [some (.retAddr 11), some (.ref 0), some (.ref 99), some (vI i)] [] 111 w 111 48738 := by
  obtain ⟨n, now, ca, po, fo, rs, S0, S1, k0, k1, rb, rn, rf, tx, hX, hM, hG, hG0, hG1, hby⟩ := h
  obtain ⟨_, _, _, _, _, _, hk0, hk1, _, _⟩ := hM.2.2.2.1
  refine VX_aload_n (pc := 382) dL_law_382 rfl ?_
  refine VX_aload_nS (pc := 383) dL_law_383 rfl ?_
  refine VX_iload_n (pc := 384) dL_law_384 rfl ?_
  refine VX_iconst (pc := 385) dL_law_385 ?_
  refine VX_iadd (pc := 386) dL_law_386 ?_
  refine VX_sld (pc := 387) hL ⟨by omega, by omega⟩ dL_law_387 ?_
  refine VX_i2l (pc := 388) dL_law_388 (sc_R _ _) ?_
  refine VX_bipush (pc := 389) dL_law_389 ⟨by decide, by decide⟩ ?_
  refine VX_lshl (pc := 391) dL_law_391 rfl ?_
  refine VX_aload_nS (pc := 392) dL_law_392 rfl ?_
  refine VX_iload_n (pc := 393) dL_law_393 rfl ?_
  refine VX_iconst (pc := 394) dL_law_394 ?_
  refine VX_iadd (pc := 395) dL_law_395 ?_
  refine VX_sld (pc := 396) hL ⟨by omega, by omega⟩ dL_law_396 ?_
  refine VX_i2l (pc := 397) dL_law_397 (sc_R _ _) ?_
  refine VX_ldc2 (z := 4294967295) (pc := 398) dL_law_398 cl_L_41 (by decide) ?_
  refine VX_land (pc := 401) dL_law_401 rfl ?_
  refine VX_lor (pc := 402) dL_law_402 rfl ?_
  refine VX_aload_nS (pc := 403) dL_law_403 rfl ?_
  refine VX_iload_n (pc := 404) dL_law_404 rfl ?_
  refine VX_iconst (pc := 405) dL_law_405 ?_
  refine VX_iadd (pc := 406) dL_law_406 ?_
  refine VX_sld (pc := 407) hL ⟨by omega, by omega⟩ dL_law_407 ?_
  apply VX_vI (pc := 408) dL_law_408 ok_X5_type ov_X5_type ln_L_43 (cx_type hX (sc_R _ _))
  · exact hX.1
  · rfl
  · rfl
  · rfl
  · rfl
  · rfl
  rintro z1 w1 ⟨rfl, g1, f1⟩
  have M1 := hM.keepX f1
  obtain ⟨a0, sp, tk, vl, mn, fd, sv, ho⟩ := M1.2.1
  refine VX_aload_n (pc := 411) dL_law_411 rfl ?_
  refine VX_aload_nS (pc := 412) dL_law_412 rfl ?_
  refine VX_iload_n (pc := 413) dL_law_413 rfl ?_
  refine VX_iconst (pc := 414) dL_law_414 ?_
  refine VX_iadd (pc := 415) dL_law_415 ?_
  refine VX_sld (pc := 416) hL ⟨by omega, by omega⟩ dL_law_416 ?_
  refine VX_i2l (pc := 417) dL_law_417 (sc_R _ _) ?_
  refine VX_bipush (pc := 418) dL_law_418 ⟨by decide, by decide⟩ ?_
  refine VX_lshl (pc := 420) dL_law_420 rfl ?_
  refine VX_aload_nS (pc := 421) dL_law_421 rfl ?_
  refine VX_iload_n (pc := 422) dL_law_422 rfl ?_
  refine VX_iconst (pc := 423) dL_law_423 ?_
  refine VX_iadd (pc := 424) dL_law_424 ?_
  refine VX_sld (pc := 425) hL ⟨by omega, by omega⟩ dL_law_425 ?_
  refine VX_i2l (pc := 426) dL_law_426 (sc_R _ _) ?_
  refine VX_ldc2 (z := 4294967295) (pc := 427) dL_law_427 cl_L_41 (by decide) ?_
  refine VX_land (pc := 430) dL_law_430 rfl ?_
  refine VX_lor (pc := 431) dL_law_431 rfl ?_
  refine VX_aload_nS (pc := 432) dL_law_432 rfl ?_
  refine VX_iload_n (pc := 433) dL_law_433 rfl ?_
  refine VX_iconst (pc := 434) dL_law_434 ?_
  refine VX_iadd (pc := 435) dL_law_435 ?_
  refine VX_sld (pc := 436) hL ⟨by omega, by omega⟩ dL_law_436 ?_
  apply VX_vI (pc := 437) dL_law_437 ok_X6_type ov_X6_type ln_L_47 (mx_type M1 (sc_R _ _))
  · exact ho
  · rfl
  · rfl
  · rfl
  · rfl
  · rfl
  rintro z2 w2 ⟨rfl, g2, f2⟩
  have X2 := g1.keepM f2
  refine VX_same (tgt := 955) (pc := 440) dL_law_440 (by decide) ?_
  exact K w2 (LI.mk X2 g2 hG hG0 hG1 (fType_by hby _ _))
set_option maxRecDepth 100000 in
theorem lw_c7 (hL : L ≤ 2560) (hi : 0 ≤ i ∧ i + 5 ≤ L) (h : LI w) (K : ∀ w', LI w' → VX L xs 955 [some (.retAddr 11), some (.ref 0), some (.ref 99), some (vI i)] [] 111 w' 111 48738) : VX L xs 445 [some (.retAddr 11), some (.ref 0), some (.ref 99), some (vI i)] [] 111 w 111 48738 := by
  obtain ⟨n, now, ca, po, fo, rs, S0, S1, k0, k1, rb, rn, rf, tx, hX, hM, hG, hG0, hG1, hby⟩ := h
  obtain ⟨_, _, _, _, _, _, hk0, hk1, _, _⟩ := hM.2.2.2.1
  refine VX_aload_n (pc := 445) dL_law_445 rfl ?_
  apply VX_vI (pc := 446) dL_law_446 ok_X5_clear ov_X5_clear ln_L_48 (cx_clear hX)
  · exact hX.1
  · rfl
  · rfl
  · rfl
  · rfl
  · rfl
  rintro z1 w1 ⟨rfl, g1, f1⟩
  have M1 := hM.keepX f1
  obtain ⟨a0, sp, tk, vl, mn, fd, sv, ho⟩ := M1.2.1
  refine VX_aload_n (pc := 449) dL_law_449 rfl ?_
  apply VX_vI (pc := 450) dL_law_450 ok_X6_clear ov_X6_clear ln_L_52 (mx_clear M1)
  · exact ho
  · rfl
  · rfl
  · rfl
  · rfl
  · rfl
  rintro z2 w2 ⟨rfl, g2, f2⟩
  have X2 := g1.keepM f2
  refine VX_same (tgt := 955) (pc := 453) dL_law_453 (by decide) ?_
  exact K w2 (LI.mk X2 g2 hG hG0 hG1 byOK_nil)
set_option maxRecDepth 100000 in
theorem lw_c8 (hL : L ≤ 2560) (hi : 0 ≤ i ∧ i + 5 ≤ L) (h : LI w) (K : ∀ w', LI w' → VX L xs 955 [some (.retAddr 11), some (.ref 0), some (.ref 99), some (vI i)] [] 111 w' 111 48738) : VX L xs 458 [some (.retAddr 11), some (.ref 0), some (.ref 99), some (vI i)] [] 111 w 111 48738 := by
  obtain ⟨n, now, ca, po, fo, rs, S0, S1, k0, k1, rb, rn, rf, tx, hX, hM, hG, hG0, hG1, hby⟩ := h
  obtain ⟨_, _, _, _, _, _, hk0, hk1, _, _⟩ := hM.2.2.2.1
  refine VX_aload_n (pc := 458) dL_law_458 rfl ?_
  apply VX_vI (pc := 459) dL_law_459 ok_X5_read ov_X5_read ln_L_53 (cx_read hX hby)
  · exact hX.1
  · rfl
  · rfl
  · rfl
  · rfl
  · rfl
  rintro z1 w1 ⟨rfl, g1, f1⟩
  have M1 := hM.keepX f1
  obtain ⟨a0, sp, tk, vl, mn, fd, sv, ho⟩ := M1.2.1
  refine VX_aload_n (pc := 462) dL_law_462 rfl ?_
  apply VX_vI (pc := 463) dL_law_463 ok_X6_read ov_X6_read ln_L_56 (mx_read M1 hG hby)
  · exact ho
  · rfl
  · rfl
  · rfl
  · rfl
  · rfl
  rintro z2 w2 ⟨rfl, g2, f2⟩
  have X2 := g1.keepM f2
  refine VX_same (tgt := 955) (pc := 466) dL_law_466 (by decide) ?_
  exact K w2 (LI.mk X2 g2 (fRead_good hG _) hG0 hG1 hby)
set_option maxRecDepth 100000 in
theorem lw_c9 (hL : L ≤ 2560) (hi : 0 ≤ i ∧ i + 5 ≤ L) (h : LI w) (K : ∀ w', LI w' → VX L xs 955 [some (.retAddr 11), some (.ref 0), some (.ref 99), some (vI i)] [] 111 w' 111 48738) : VX L xs 471 [some (.retAddr 11), some (.ref 0), some (.ref 99), some (vI i)] [] 111 w 111 48738 := by
  obtain ⟨n, now, ca, po, fo, rs, S0, S1, k0, k1, rb, rn, rf, tx, hX, hM, hG, hG0, hG1, hby⟩ := h
  obtain ⟨_, _, _, _, _, _, hk0, hk1, _, _⟩ := hM.2.2.2.1
  refine VX_aload_n (pc := 471) dL_law_471 rfl ?_
  refine VX_aload_nS (pc := 472) dL_law_472 rfl ?_
  refine VX_iload_n (pc := 473) dL_law_473 rfl ?_
  refine VX_iconst (pc := 474) dL_law_474 ?_
  refine VX_iadd (pc := 475) dL_law_475 ?_
  refine VX_sld (pc := 476) hL ⟨by omega, by omega⟩ dL_law_476 ?_
  apply VX_vI (pc := 477) dL_law_477 ok_X5_pull ov_X5_pull ln_L_57 (cx_pull hX hG (sc_R _ _))
  · exact hX.1
  · rfl
  · rfl
  · rfl
  · rfl
  · rfl
  rintro z1 w1 ⟨rfl, g1, f1⟩
  have M1 := hM.keepX f1
  obtain ⟨a0, sp, tk, vl, mn, fd, sv, ho⟩ := M1.2.1
  refine VX_aload_n (pc := 480) dL_law_480 rfl ?_
  refine VX_aload_nS (pc := 481) dL_law_481 rfl ?_
  refine VX_iload_n (pc := 482) dL_law_482 rfl ?_
  refine VX_iconst (pc := 483) dL_law_483 ?_
  refine VX_iadd (pc := 484) dL_law_484 ?_
  refine VX_sld (pc := 485) hL ⟨by omega, by omega⟩ dL_law_485 ?_
  apply VX_vI (pc := 486) dL_law_486 ok_X6_pull ov_X6_pull ln_L_60 (M1.lift (cm_pull M1.1 hG (sc_R _ _)))
  · exact ho
  · rfl
  · rfl
  · rfl
  · rfl
  · rfl
  rintro z2 w2 ⟨rfl, g2, f2⟩
  have X2 := g1.keepM f2
  refine VX_same (tgt := 955) (pc := 489) dL_law_489 (by decide) ?_
  exact K w2 (LI.mk X2 g2 (hG.pull1 _) hG0 hG1 hby)
set_option maxRecDepth 100000 in
theorem lw_c10 (hL : L ≤ 2560) (hi : 0 ≤ i ∧ i + 5 ≤ L) (h : LI w) (K : ∀ w', LI w' → VX L xs 955 [some (.retAddr 11), some (.ref 0), some (.ref 99), some (vI i)] [] 111 w' 111 48738) : VX L xs 494 [some (.retAddr 11), some (.ref 0), some (.ref 99), some (vI i)] [] 111 w 111 48738 := by
  obtain ⟨n, now, ca, po, fo, rs, S0, S1, k0, k1, rb, rn, rf, tx, hX, hM, hG, hG0, hG1, hby⟩ := h
  obtain ⟨_, _, _, _, _, _, hk0, hk1, _, _⟩ := hM.2.2.2.1
  refine VX_aload_n (pc := 494) dL_law_494 rfl ?_
  apply VX_vI (pc := 495) dL_law_495 ok_X5_undo ov_X5_undo ln_L_61 (cx_undo hX hG)
  · exact hX.1
  · rfl
  · rfl
  · rfl
  · rfl
  · rfl
  rintro z1 w1 ⟨rfl, g1, f1⟩
  have M1 := hM.keepX f1
  obtain ⟨a0, sp, tk, vl, mn, fd, sv, ho⟩ := M1.2.1
  refine VX_aload_n (pc := 498) dL_law_498 rfl ?_
  apply VX_vI (pc := 499) dL_law_499 ok_X6_undo ov_X6_undo ln_L_64 (M1.lift (cm_undo M1.1 hG))
  · exact ho
  · rfl
  · rfl
  · rfl
  · rfl
  · rfl
  rintro z2 w2 ⟨rfl, g2, f2⟩
  have X2 := g1.keepM f2
  refine VX_same (tgt := 955) (pc := 502) dL_law_502 (by decide) ?_
  exact K w2 (LI.mk X2 g2 hG.undo1 hG0 hG1 hby)
set_option maxRecDepth 100000 in
theorem lw_c11 (hL : L ≤ 2560) (hi : 0 ≤ i ∧ i + 5 ≤ L) (h : LI w) (K : ∀ w', LI w' → VX L xs 955 [some (.retAddr 11), some (.ref 0), some (.ref 99), some (vI i)] [] 111 w' 111 48738) : VX L xs 507 [some (.retAddr 11), some (.ref 0), some (.ref 99), some (vI i)] [] 111 w 111 48738 := by
  obtain ⟨n, now, ca, po, fo, rs, S0, S1, k0, k1, rb, rn, rf, tx, hX, hM, hG, hG0, hG1, hby⟩ := h
  obtain ⟨_, _, _, _, _, _, hk0, hk1, _, _⟩ := hM.2.2.2.1
  refine VX_aload_n (pc := 507) dL_law_507 rfl ?_
  refine VX_aload_nS (pc := 508) dL_law_508 rfl ?_
  refine VX_iload_n (pc := 509) dL_law_509 rfl ?_
  refine VX_iconst (pc := 510) dL_law_510 ?_
  refine VX_iadd (pc := 511) dL_law_511 ?_
  refine VX_sld (pc := 512) hL ⟨by omega, by omega⟩ dL_law_512 ?_
  refine VX_aload_nS (pc := 513) dL_law_513 rfl ?_
  refine VX_iload_n (pc := 514) dL_law_514 rfl ?_
  refine VX_iconst (pc := 515) dL_law_515 ?_
  refine VX_iadd (pc := 516) dL_law_516 ?_
  refine VX_sld (pc := 517) hL ⟨by omega, by omega⟩ dL_law_517 ?_
  apply VX_vI (pc := 518) dL_law_518 ok_X5_behind ov_X5_behind ln_L_65 (cx_behind hX hG (sc_R _ _) (sc_R _ _))
  · exact hX.1
  · rfl
  · rfl
  · rfl
  · rfl
  · rfl
  rintro z1 w1 ⟨rfl, g1, f1⟩
  have M1 := hM.keepX f1
  obtain ⟨a0, sp, tk, vl, mn, fd, sv, ho⟩ := M1.2.1
  refine VX_aload_n (pc := 521) dL_law_521 rfl ?_
  refine VX_aload_nS (pc := 522) dL_law_522 rfl ?_
  refine VX_iload_n (pc := 523) dL_law_523 rfl ?_
  refine VX_iconst (pc := 524) dL_law_524 ?_
  refine VX_iadd (pc := 525) dL_law_525 ?_
  refine VX_sld (pc := 526) hL ⟨by omega, by omega⟩ dL_law_526 ?_
  refine VX_aload_nS (pc := 527) dL_law_527 rfl ?_
  refine VX_iload_n (pc := 528) dL_law_528 rfl ?_
  refine VX_iconst (pc := 529) dL_law_529 ?_
  refine VX_iadd (pc := 530) dL_law_530 ?_
  refine VX_sld (pc := 531) hL ⟨by omega, by omega⟩ dL_law_531 ?_
  apply VX_vI (pc := 532) dL_law_532 ok_X6_behind ov_X6_behind ln_L_68 (M1.lift (cm_behind M1.1 hG (sc_R _ _) (sc_R _ _)))
  · exact ho
  · rfl
  · rfl
  · rfl
  · rfl
  · rfl
  rintro z2 w2 ⟨rfl, g2, f2⟩
  have X2 := g1.keepM f2
  refine VX_same (tgt := 955) (pc := 535) dL_law_535 (by decide) ?_
  exact K w2 (LI.mk X2 g2 hG hG0 hG1 hby)
set_option maxRecDepth 100000 in
theorem lw_c12 (hL : L ≤ 2560) (hi : 0 ≤ i ∧ i + 5 ≤ L) (h : LI w) (K : ∀ w', LI w' → VX L xs 955 [some (.retAddr 11), some (.ref 0), some (.ref 99), some (vI i)] [] 111 w' 111 48738) : VX L xs 540 [some (.retAddr 11), some (.ref 0), some (.ref 99), some (vI i)] [] 111 w 111 48738 := by
  obtain ⟨n, now, ca, po, fo, rs, S0, S1, k0, k1, rb, rn, rf, tx, hX, hM, hG, hG0, hG1, hby⟩ := h
  obtain ⟨_, _, _, _, _, _, hk0, hk1, _, _⟩ := hM.2.2.2.1
  refine VX_aload_n (pc := 540) dL_law_540 rfl ?_
  refine VX_aload_nS (pc := 541) dL_law_541 rfl ?_
  refine VX_iload_n (pc := 542) dL_law_542 rfl ?_
  refine VX_iconst (pc := 543) dL_law_543 ?_
  refine VX_iadd (pc := 544) dL_law_544 ?_
  refine VX_sld (pc := 545) hL ⟨by omega, by omega⟩ dL_law_545 ?_
  apply VX_vI (pc := 546) dL_law_546 ok_X5_out ov_X5_out ln_L_69 (cx_out hX hG (sc_R _ _))
  · exact hX.1
  · rfl
  · rfl
  · rfl
  · rfl
  · rfl
  rintro z1 w1 ⟨rfl, g1, f1⟩
  have M1 := hM.keepX f1
  obtain ⟨a0, sp, tk, vl, mn, fd, sv, ho⟩ := M1.2.1
  refine VX_aload_n (pc := 549) dL_law_549 rfl ?_
  refine VX_aload_nS (pc := 550) dL_law_550 rfl ?_
  refine VX_iload_n (pc := 551) dL_law_551 rfl ?_
  refine VX_iconst (pc := 552) dL_law_552 ?_
  refine VX_iadd (pc := 553) dL_law_553 ?_
  refine VX_sld (pc := 554) hL ⟨by omega, by omega⟩ dL_law_554 ?_
  apply VX_vI (pc := 555) dL_law_555 ok_X6_out ov_X6_out ln_L_72 (M1.lift (cm_out M1.1 hG (sc_R _ _)))
  · exact ho
  · rfl
  · rfl
  · rfl
  · rfl
  · rfl
  rintro z2 w2 ⟨rfl, g2, f2⟩
  have X2 := g1.keepM f2
  refine VX_same (tgt := 955) (pc := 558) dL_law_558 (by decide) ?_
  exact K w2 (LI.mk X2 g2 hG hG0 hG1 hby)
set_option maxRecDepth 100000 in
theorem lw_c13 (hL : L ≤ 2560) (hi : 0 ≤ i ∧ i + 5 ≤ L) (h : LI w) (K : ∀ w', LI w' → VX L xs 955 [some (.retAddr 11), some (.ref 0), some (.ref 99), some (vI i)] [] 111 w' 111 48738) : VX L xs 563 [some (.retAddr 11), some (.ref 0), some (.ref 99), some (vI i)] [] 111 w 111 48738 := by
  obtain ⟨n, now, ca, po, fo, rs, S0, S1, k0, k1, rb, rn, rf, tx, hX, hM, hG, hG0, hG1, hby⟩ := h
  obtain ⟨_, _, _, _, _, _, hk0, hk1, _, _⟩ := hM.2.2.2.1
  refine VX_aload_n (pc := 563) dL_law_563 rfl ?_
  refine VX_aload_nS (pc := 564) dL_law_564 rfl ?_
  refine VX_iload_n (pc := 565) dL_law_565 rfl ?_
  refine VX_iconst (pc := 566) dL_law_566 ?_
  refine VX_iadd (pc := 567) dL_law_567 ?_
  refine VX_sld (pc := 568) hL ⟨by omega, by omega⟩ dL_law_568 ?_
  refine VX_aload_nS (pc := 569) dL_law_569 rfl ?_
  refine VX_iload_n (pc := 570) dL_law_570 rfl ?_
  refine VX_iconst (pc := 571) dL_law_571 ?_
  refine VX_iadd (pc := 572) dL_law_572 ?_
  refine VX_sld (pc := 573) hL ⟨by omega, by omega⟩ dL_law_573 ?_
  refine VX_aload_nS (pc := 574) dL_law_574 rfl ?_
  refine VX_iload_n (pc := 575) dL_law_575 rfl ?_
  refine VX_iconst (pc := 576) dL_law_576 ?_
  refine VX_iadd (pc := 577) dL_law_577 ?_
  refine VX_sld (pc := 578) hL ⟨by omega, by omega⟩ dL_law_578 ?_
  apply VX_vI (pc := 579) dL_law_579 ok_X5_pulls ov_X5_pulls ln_L_73 (cx_pulls hX hG (sc_R _ _) (sc_R _ _) (sc_R _ _))
  · exact hX.1
  · rfl
  · rfl
  · rfl
  · rfl
  · rfl
  rintro z1 w1 ⟨r1, g1, f1⟩
  have M1 := hM.keepX f1
  obtain ⟨a0, sp, tk, vl, mn, fd, sv, ho⟩ := M1.2.1
  refine VX_aload_n (pc := 582) dL_law_582 rfl ?_
  refine VX_aload_nS (pc := 583) dL_law_583 rfl ?_
  refine VX_iload_n (pc := 584) dL_law_584 rfl ?_
  refine VX_iconst (pc := 585) dL_law_585 ?_
  refine VX_iadd (pc := 586) dL_law_586 ?_
  refine VX_sld (pc := 587) hL ⟨by omega, by omega⟩ dL_law_587 ?_
  refine VX_aload_nS (pc := 588) dL_law_588 rfl ?_
  refine VX_iload_n (pc := 589) dL_law_589 rfl ?_
  refine VX_iconst (pc := 590) dL_law_590 ?_
  refine VX_iadd (pc := 591) dL_law_591 ?_
  refine VX_sld (pc := 592) hL ⟨by omega, by omega⟩ dL_law_592 ?_
  refine VX_aload_nS (pc := 593) dL_law_593 rfl ?_
  refine VX_iload_n (pc := 594) dL_law_594 rfl ?_
  refine VX_iconst (pc := 595) dL_law_595 ?_
  refine VX_iadd (pc := 596) dL_law_596 ?_
  refine VX_sld (pc := 597) hL ⟨by omega, by omega⟩ dL_law_597 ?_
  apply VX_vI (pc := 598) dL_law_598 ok_X6_pulls ov_X6_pulls ln_L_77 (mx_pulls M1 hG (sc_R _ _) (sc_R _ _) (sc_R _ _))
  · exact ho
  · rfl
  · rfl
  · rfl
  · rfl
  · rfl
  rintro z2 w2 ⟨r2, g2, f2⟩
  have X2 := g1.keepM f2
  obtain rfl := pl_eq hG r1 r2
  refine VX_same (tgt := 955) (pc := 601) dL_law_601 (by decide) ?_
  exact K w2 (LI.mk X2 g2 hG hG0 hG1 hby)
set_option maxRecDepth 100000 in
theorem lw_c14 (hL : L ≤ 2560) (hi : 0 ≤ i ∧ i + 5 ≤ L) (h : LI w) (K : ∀ w', LI w' → VX L xs 955 [some (.retAddr 11), some (.ref 0), some (.ref 99), some (vI i)] [] 111 w' 111 48738) : VX L xs 606 [some (.retAddr 11), some (.ref 0), some (.ref 99), some (vI i)] [] 111 w 111 48738 := by
  obtain ⟨n, now, ca, po, fo, rs, S0, S1, k0, k1, rb, rn, rf, tx, hX, hM, hG, hG0, hG1, hby⟩ := h
  obtain ⟨_, _, _, _, _, _, hk0, hk1, _, _⟩ := hM.2.2.2.1
  refine VX_aload_n (pc := 606) dL_law_606 rfl ?_
  refine VX_aload_nS (pc := 607) dL_law_607 rfl ?_
  refine VX_iload_n (pc := 608) dL_law_608 rfl ?_
  refine VX_iconst (pc := 609) dL_law_609 ?_
  refine VX_iadd (pc := 610) dL_law_610 ?_
  refine VX_sld (pc := 611) hL ⟨by omega, by omega⟩ dL_law_611 ?_
  refine VX_aload_nS (pc := 612) dL_law_612 rfl ?_
  refine VX_iload_n (pc := 613) dL_law_613 rfl ?_
  refine VX_iconst (pc := 614) dL_law_614 ?_
  refine VX_iadd (pc := 615) dL_law_615 ?_
  refine VX_sld (pc := 616) hL ⟨by omega, by omega⟩ dL_law_616 ?_
  refine VX_aload_nS (pc := 617) dL_law_617 rfl ?_
  refine VX_iload_n (pc := 618) dL_law_618 rfl ?_
  refine VX_iconst (pc := 619) dL_law_619 ?_
  refine VX_iadd (pc := 620) dL_law_620 ?_
  refine VX_sld (pc := 621) hL ⟨by omega, by omega⟩ dL_law_621 ?_
  apply VX_vI (pc := 622) dL_law_622 ok_X5_safe ov_X5_safe ln_L_78 (cx_safe hX hG (sc_R _ _) (sc_R _ _) (sc_R _ _))
  · exact hX.1
  · rfl
  · rfl
  · rfl
  · rfl
  · rfl
  rintro z1 w1 ⟨r1, g1, f1⟩
  have M1 := hM.keepX f1
  obtain ⟨a0, sp, tk, vl, mn, fd, sv, ho⟩ := M1.2.1
  refine VX_aload_n (pc := 625) dL_law_625 rfl ?_
  refine VX_aload_nS (pc := 626) dL_law_626 rfl ?_
  refine VX_iload_n (pc := 627) dL_law_627 rfl ?_
  refine VX_iconst (pc := 628) dL_law_628 ?_
  refine VX_iadd (pc := 629) dL_law_629 ?_
  refine VX_sld (pc := 630) hL ⟨by omega, by omega⟩ dL_law_630 ?_
  refine VX_aload_nS (pc := 631) dL_law_631 rfl ?_
  refine VX_iload_n (pc := 632) dL_law_632 rfl ?_
  refine VX_iconst (pc := 633) dL_law_633 ?_
  refine VX_iadd (pc := 634) dL_law_634 ?_
  refine VX_sld (pc := 635) hL ⟨by omega, by omega⟩ dL_law_635 ?_
  refine VX_aload_nS (pc := 636) dL_law_636 rfl ?_
  refine VX_iload_n (pc := 637) dL_law_637 rfl ?_
  refine VX_iconst (pc := 638) dL_law_638 ?_
  refine VX_iadd (pc := 639) dL_law_639 ?_
  refine VX_sld (pc := 640) hL ⟨by omega, by omega⟩ dL_law_640 ?_
  apply VX_vI (pc := 641) dL_law_641 ok_X6_safe ov_X6_safe ln_L_81 (mx_safe M1 hG (sc_R _ _) (sc_R _ _) (sc_R _ _))
  · exact ho
  · rfl
  · rfl
  · rfl
  · rfl
  · rfl
  rintro z2 w2 ⟨r2, g2, f2⟩
  have X2 := g1.keepM f2
  obtain rfl := pl_eq hG r1 r2
  refine VX_same (tgt := 955) (pc := 644) dL_law_644 (by decide) ?_
  exact K w2 (LI.mk X2 g2 hG hG0 hG1 hby)
end LAW
