/-! ===== DrawerWall: the digest, fits, images, type ===== -/
section CLS
variable {nn : Nat} {w : vWd} {n now : Int} {ca po fo : Nat} {rs : Nat → List Int} {S0 S1 : vSt} {k0 k1 rb rn rf : Int} {tx : List Int}
set_option maxRecDepth 100000 in
theorem lp_dg5 {hh : Int} (h : XInv w (n, now, ca, po, fo, rs) S0 S1 k0 k1 tx rb rn rf) (hG : vGood (n, now, ca, po, fo, rs)) : ∀ (m : Nat) (i : Int), 0 ≤ i → i ≤ (rs 6).length → ((rs 6).length - i).toNat < m →
    V mX5_digest (rm 3) (pR (vJ (dg5 rs hh)) nn w) 264 [some (.ref 0), some (vJ (hMx (dgS rs) hh (2 * i.toNat))), none, some (vI i)] [] nn w 0 0 := by
  intro m
  induction m with
  | zero => intro i h1 h2 h3; omega
  | succ m ih =>
    intro i hi hi2 hm
    have h0 := h
    obtain ⟨ho, hW, hK, hr⟩ := h
    obtain ⟨hn, hnow, hca, hpo, hfo, hgd, hcv, hor, hsg, hpast⟩ := hG.un
    have oW := hW.obj
    have hl7 := hsg.1
    have hp := p3_le n.toNat (by omega)
    have hlc := hW.r6.len
    have hsi := hsg.2 i hi
    refine V_iload_n (Y := mX5_digest) (pc := 264) dX5_digest_264 rfl ?_
    refine V_aload_n (Y := mX5_digest) (pc := 265) dX5_digest_265 rfl ?_
    apply V_get (Y := mX5_digest) (pc := 266) dX5_digest_266 fl_X5_10
    · assumption
    · rfl
    apply V_get (Y := mX5_digest) (pc := 269) dX5_digest_269 fl_X5_234
    · assumption
    · rfl
    apply V_vR (Y := mX5_digest) (pc := 272) dX5_digest_272 ok_X2_size ov_X2_size ln_X5_109 (c_Row_size hW.r6)
    · exact hW.r6.obj
    · rfl
    · rfl
    · rfl
    · rfl
    · rfl
    
    refine V_icmp_ge (tgt := 322) (Y := mX5_digest) (pc := 275) dX5_digest_275 (by decide) ⟨by omega, by omega⟩ ⟨by omega, by omega⟩ (fun h_275 => ?_) (fun h_275 => ?_)
    · try have hsi := hsi (by omega)
      refine V_lload_n (Y := mX5_digest) (pc := 322) dX5_digest_322 rfl ?_
      refine V_lret (Y := mX5_digest) (pc := 323) dX5_digest_323 rfl (Nat.le_of_ble_eq_true rfl) (Nat.le_of_ble_eq_true rfl) ?_
      refine pR_of ?_
      rw [dg5, show i.toNat = (rs 6).length by omega]
    · try have hsi := hsi (by omega)
      refine V_ldc2 (z := (31 : Int)) (Y := mX5_digest) (pc := 278) dX5_digest_278 cl_X5_255 (by decide) ?_
      refine V_lload_n (Y := mX5_digest) (pc := 281) dX5_digest_281 rfl ?_
      refine V_lmul (Y := mX5_digest) (pc := 282) dX5_digest_282 ?_
      refine V_aload_n (Y := mX5_digest) (pc := 283) dX5_digest_283 rfl ?_
      apply V_get (Y := mX5_digest) (pc := 284) dX5_digest_284 fl_X5_10
      · assumption
      · rfl
      apply V_get (Y := mX5_digest) (pc := 287) dX5_digest_287 fl_X5_234
      · assumption
      · rfl
      refine V_iload_n (Y := mX5_digest) (pc := 290) dX5_digest_290 rfl ?_
      apply V_vR (Y := mX5_digest) (pc := 291) dX5_digest_291 ok_X2_at ov_X2_at ln_X5_185 (c_Row_at (i := i) hW.r6 ⟨by omega, by omega⟩)
      · exact hW.r6.obj
      · rfl
      · rfl
      · rfl
      · rfl
      · rfl
      refine V_i2l (Y := mX5_digest) (pc := 294) dX5_digest_294 ⟨by omega, by omega⟩ ?_
      refine V_ladd (Y := mX5_digest) (pc := 295) dX5_digest_295 ?_
      refine V_lstore_n (Y := mX5_digest) (pc := 296) dX5_digest_296 rfl (by decide) ?_
      refine V_ldc2 (z := (31 : Int)) (Y := mX5_digest) (pc := 297) dX5_digest_297 cl_X5_255 (by decide) ?_
      refine V_lload_n (Y := mX5_digest) (pc := 300) dX5_digest_300 rfl ?_
      refine V_lmul (Y := mX5_digest) (pc := 301) dX5_digest_301 ?_
      refine V_aload_n (Y := mX5_digest) (pc := 302) dX5_digest_302 rfl ?_
      apply V_get (Y := mX5_digest) (pc := 303) dX5_digest_303 fl_X5_10
      · assumption
      · rfl
      apply V_get (Y := mX5_digest) (pc := 306) dX5_digest_306 fl_X5_237
      · assumption
      · rfl
      refine V_iload_n (Y := mX5_digest) (pc := 309) dX5_digest_309 rfl ?_
      apply V_vR (Y := mX5_digest) (pc := 310) dX5_digest_310 ok_X2_at ov_X2_at ln_X5_185 (c_Row_at (i := i) hW.r7 ⟨by omega, by omega⟩)
      · exact hW.r7.obj
      · rfl
      · rfl
      · rfl
      · rfl
      · rfl
      refine V_i2l (Y := mX5_digest) (pc := 313) dX5_digest_313 ⟨by omega, by omega⟩ ?_
      refine V_ladd (Y := mX5_digest) (pc := 314) dX5_digest_314 ?_
      refine V_lstore_n (Y := mX5_digest) (pc := 315) dX5_digest_315 rfl (by decide) ?_
      refine V_iinc (Y := mX5_digest) (pc := 316) dX5_digest_316 rfl rfl ?_
      refine V_goto (tgt := 264) (Y := mX5_digest) (pc := 319) dX5_digest_319 (by decide) ?_
      have k := ih (i + 1) (by omega) (by omega) (by omega)
      rw [show (i + 1).toNat = i.toNat + 1 by omega, dgS, hMx_2, show ((i.toNat : Nat) : Int) = i by omega] at k
      exact k
set_option maxRecDepth 100000 in
theorem lp_dg4 {hh : Int} (h : XInv w (n, now, ca, po, fo, rs) S0 S1 k0 k1 tx rb rn rf) (hG : vGood (n, now, ca, po, fo, rs)) : ∀ (m : Nat) (i : Int), 0 ≤ i → i ≤ (rs 5).length → ((rs 5).length - i).toNat < m →
    V mX5_digest (rm 3) (pR (vJ (dg4 rs hh)) nn w) 223 [some (.ref 0), some (vJ (hMx (dgO rs) hh i.toNat)), none, some (vI i)] [] nn w 0 0 := by
  intro m
  induction m with
  | zero => intro i h1 h2 h3; omega
  | succ m ih =>
    intro i hi hi2 hm
    have h0 := h
    obtain ⟨ho, hW, hK, hr⟩ := h
    obtain ⟨hn, hnow, hca, hpo, hfo, hgd, hcv, hor, hsg, hpast⟩ := hG.un
    have oW := hW.obj
    have hlc := hW.r5.len
    have hsi := hor i hi
    refine V_iload_n (Y := mX5_digest) (pc := 223) dX5_digest_223 rfl ?_
    refine V_aload_n (Y := mX5_digest) (pc := 224) dX5_digest_224 rfl ?_
    apply V_get (Y := mX5_digest) (pc := 225) dX5_digest_225 fl_X5_10
    · assumption
    · rfl
    apply V_get (Y := mX5_digest) (pc := 228) dX5_digest_228 fl_X5_240
    · assumption
    · rfl
    apply V_vR (Y := mX5_digest) (pc := 231) dX5_digest_231 ok_X2_size ov_X2_size ln_X5_109 (c_Row_size hW.r5)
    · exact hW.r5.obj
    · rfl
    · rfl
    · rfl
    · rfl
    · rfl
    
    refine V_icmp_ge (tgt := 262) (Y := mX5_digest) (pc := 234) dX5_digest_234 (by decide) ⟨by omega, by omega⟩ ⟨by omega, by omega⟩ (fun h_234 => ?_) (fun h_234 => ?_)
    · try have hsi := hsi (by omega)
      refine V_iconst (Y := mX5_digest) (pc := 262) dX5_digest_262 ?_
      refine V_istore_n (Y := mX5_digest) (pc := 263) dX5_digest_263 rfl ?_
      rw [dg4, show (rs 5).length = i.toNat by omega]
      exact lp_dg5 h0 hG ((rs 6).length + 1) 0 (by omega) (by omega) (by omega)
    · try have hsi := hsi (by omega)
      refine V_ldc2 (z := (31 : Int)) (Y := mX5_digest) (pc := 237) dX5_digest_237 cl_X5_255 (by decide) ?_
      refine V_lload_n (Y := mX5_digest) (pc := 240) dX5_digest_240 rfl ?_
      refine V_lmul (Y := mX5_digest) (pc := 241) dX5_digest_241 ?_
      refine V_aload_n (Y := mX5_digest) (pc := 242) dX5_digest_242 rfl ?_
      apply V_get (Y := mX5_digest) (pc := 243) dX5_digest_243 fl_X5_10
      · assumption
      · rfl
      apply V_get (Y := mX5_digest) (pc := 246) dX5_digest_246 fl_X5_240
      · assumption
      · rfl
      refine V_iload_n (Y := mX5_digest) (pc := 249) dX5_digest_249 rfl ?_
      apply V_vR (Y := mX5_digest) (pc := 250) dX5_digest_250 ok_X2_at ov_X2_at ln_X5_185 (c_Row_at (i := i) hW.r5 ⟨by omega, by omega⟩)
      · exact hW.r5.obj
      · rfl
      · rfl
      · rfl
      · rfl
      · rfl
      refine V_i2l (Y := mX5_digest) (pc := 253) dX5_digest_253 ⟨by omega, by omega⟩ ?_
      refine V_ladd (Y := mX5_digest) (pc := 254) dX5_digest_254 ?_
      refine V_lstore_n (Y := mX5_digest) (pc := 255) dX5_digest_255 rfl (by decide) ?_
      refine V_iinc (Y := mX5_digest) (pc := 256) dX5_digest_256 rfl rfl ?_
      refine V_goto (tgt := 223) (Y := mX5_digest) (pc := 259) dX5_digest_259 (by decide) ?_
      have k := ih (i + 1) (by omega) (by omega) (by omega)
      rw [show (i + 1).toNat = i.toNat + 1 by omega, hMx, show dgO rs i.toNat = rAt (rs 5) i by rw [dgO, show ((i.toNat : Nat) : Int) = i by omega]] at k
      exact k
set_option maxRecDepth 100000 in
theorem lp_dg3 {hh : Int} (h : XInv w (n, now, ca, po, fo, rs) S0 S1 k0 k1 tx rb rn rf) (hG : vGood (n, now, ca, po, fo, rs)) : ∀ (m : Nat) (i : Int), 0 ≤ i → i ≤ (rs 1).length → ((rs 1).length - i).toNat < m →
    V mX5_digest (rm 3) (pR (vJ (dg3 po fo rs hh)) nn w) 95 [some (.ref 0), some (vJ (hMx (dgC rs) hh (4 * i.toNat))), none, some (vI i)] [] nn w 0 0 := by
  intro m
  induction m with
  | zero => intro i h1 h2 h3; omega
  | succ m ih =>
    intro i hi hi2 hm
    have h0 := h
    obtain ⟨ho, hW, hK, hr⟩ := h
    obtain ⟨hn, hnow, hca, hpo, hfo, hgd, hcv, hor, hsg, hpast⟩ := hG.un
    have oW := hW.obj
    have hlc := hW.r1.len
    have hsi := hcv.2 i hi
    unfold okCord at hsi
    refine V_iload_n (Y := mX5_digest) (pc := 95) dX5_digest_95 rfl ?_
    refine V_aload_n (Y := mX5_digest) (pc := 96) dX5_digest_96 rfl ?_
    apply V_get (Y := mX5_digest) (pc := 97) dX5_digest_97 fl_X5_10
    · assumption
    · rfl
    apply V_get (Y := mX5_digest) (pc := 100) dX5_digest_100 fl_X5_182
    · assumption
    · rfl
    apply V_vR (Y := mX5_digest) (pc := 103) dX5_digest_103 ok_X2_size ov_X2_size ln_X5_109 (c_Row_size hW.r1)
    · exact hW.r1.obj
    · rfl
    · rfl
    · rfl
    · rfl
    · rfl
    
    refine V_icmp_ge (tgt := 191) (Y := mX5_digest) (pc := 106) dX5_digest_106 (by decide) ⟨by omega, by omega⟩ ⟨by omega, by omega⟩ (fun h_106 => ?_) (fun h_106 => ?_)
    · try have hsi := hsi (by omega)
      refine V_ldc2 (z := (31 : Int)) (Y := mX5_digest) (pc := 191) dX5_digest_191 cl_X5_255 (by decide) ?_
      refine V_lload_n (Y := mX5_digest) (pc := 194) dX5_digest_194 rfl ?_
      refine V_lmul (Y := mX5_digest) (pc := 195) dX5_digest_195 ?_
      refine V_aload_n (Y := mX5_digest) (pc := 196) dX5_digest_196 rfl ?_
      apply V_get (Y := mX5_digest) (pc := 197) dX5_digest_197 fl_X5_10
      · assumption
      · rfl
      apply V_get (Y := mX5_digest) (pc := 200) dX5_digest_200 fl_X5_100
      · assumption
      · rfl
      refine V_i2l (Y := mX5_digest) (pc := 203) dX5_digest_203 ⟨by omega, by omega⟩ ?_
      refine V_ladd (Y := mX5_digest) (pc := 204) dX5_digest_204 ?_
      refine V_lstore_n (Y := mX5_digest) (pc := 205) dX5_digest_205 rfl (by decide) ?_
      refine V_ldc2 (z := (31 : Int)) (Y := mX5_digest) (pc := 206) dX5_digest_206 cl_X5_255 (by decide) ?_
      refine V_lload_n (Y := mX5_digest) (pc := 209) dX5_digest_209 rfl ?_
      refine V_lmul (Y := mX5_digest) (pc := 210) dX5_digest_210 ?_
      refine V_aload_n (Y := mX5_digest) (pc := 211) dX5_digest_211 rfl ?_
      apply V_get (Y := mX5_digest) (pc := 212) dX5_digest_212 fl_X5_10
      · assumption
      · rfl
      apply V_get (Y := mX5_digest) (pc := 215) dX5_digest_215 fl_X5_103
      · assumption
      · rfl
      refine V_i2l (Y := mX5_digest) (pc := 218) dX5_digest_218 ⟨by omega, by omega⟩ ?_
      refine V_ladd (Y := mX5_digest) (pc := 219) dX5_digest_219 ?_
      refine V_lstore_n (Y := mX5_digest) (pc := 220) dX5_digest_220 rfl (by decide) ?_
      refine V_iconst (Y := mX5_digest) (pc := 221) dX5_digest_221 ?_
      refine V_istore_n (Y := mX5_digest) (pc := 222) dX5_digest_222 rfl ?_
      rw [dg3, show (rs 1).length = i.toNat by omega]
      exact lp_dg4 h0 hG ((rs 5).length + 1) 0 (by omega) (by omega) (by omega)
    · try have hsi := hsi (by omega)
      refine V_ldc2 (z := (31 : Int)) (Y := mX5_digest) (pc := 109) dX5_digest_109 cl_X5_255 (by decide) ?_
      refine V_lload_n (Y := mX5_digest) (pc := 112) dX5_digest_112 rfl ?_
      refine V_lmul (Y := mX5_digest) (pc := 113) dX5_digest_113 ?_
      refine V_aload_n (Y := mX5_digest) (pc := 114) dX5_digest_114 rfl ?_
      apply V_get (Y := mX5_digest) (pc := 115) dX5_digest_115 fl_X5_10
      · assumption
      · rfl
      apply V_get (Y := mX5_digest) (pc := 118) dX5_digest_118 fl_X5_182
      · assumption
      · rfl
      refine V_iload_n (Y := mX5_digest) (pc := 121) dX5_digest_121 rfl ?_
      apply V_vR (Y := mX5_digest) (pc := 122) dX5_digest_122 ok_X2_at ov_X2_at ln_X5_185 (c_Row_at (i := i) hW.r1 ⟨by omega, by omega⟩)
      · exact hW.r1.obj
      · rfl
      · rfl
      · rfl
      · rfl
      · rfl
      refine V_i2l (Y := mX5_digest) (pc := 125) dX5_digest_125 ⟨by omega, by omega⟩ ?_
      refine V_ladd (Y := mX5_digest) (pc := 126) dX5_digest_126 ?_
      refine V_lstore_n (Y := mX5_digest) (pc := 127) dX5_digest_127 rfl (by decide) ?_
      refine V_ldc2 (z := (31 : Int)) (Y := mX5_digest) (pc := 128) dX5_digest_128 cl_X5_255 (by decide) ?_
      refine V_lload_n (Y := mX5_digest) (pc := 131) dX5_digest_131 rfl ?_
      refine V_lmul (Y := mX5_digest) (pc := 132) dX5_digest_132 ?_
      refine V_aload_n (Y := mX5_digest) (pc := 133) dX5_digest_133 rfl ?_
      apply V_get (Y := mX5_digest) (pc := 134) dX5_digest_134 fl_X5_10
      · assumption
      · rfl
      apply V_get (Y := mX5_digest) (pc := 137) dX5_digest_137 fl_X5_260
      · assumption
      · rfl
      refine V_iload_n (Y := mX5_digest) (pc := 140) dX5_digest_140 rfl ?_
      apply V_vR (Y := mX5_digest) (pc := 141) dX5_digest_141 ok_X2_at ov_X2_at ln_X5_185 (c_Row_at (i := i) hW.r2 ⟨by omega, by omega⟩)
      · exact hW.r2.obj
      · rfl
      · rfl
      · rfl
      · rfl
      · rfl
      refine V_i2l (Y := mX5_digest) (pc := 144) dX5_digest_144 ⟨by omega, by omega⟩ ?_
      refine V_ladd (Y := mX5_digest) (pc := 145) dX5_digest_145 ?_
      refine V_lstore_n (Y := mX5_digest) (pc := 146) dX5_digest_146 rfl (by decide) ?_
      refine V_ldc2 (z := (31 : Int)) (Y := mX5_digest) (pc := 147) dX5_digest_147 cl_X5_255 (by decide) ?_
      refine V_lload_n (Y := mX5_digest) (pc := 150) dX5_digest_150 rfl ?_
      refine V_lmul (Y := mX5_digest) (pc := 151) dX5_digest_151 ?_
      refine V_aload_n (Y := mX5_digest) (pc := 152) dX5_digest_152 rfl ?_
      apply V_get (Y := mX5_digest) (pc := 153) dX5_digest_153 fl_X5_10
      · assumption
      · rfl
      apply V_get (Y := mX5_digest) (pc := 156) dX5_digest_156 fl_X5_263
      · assumption
      · rfl
      refine V_iload_n (Y := mX5_digest) (pc := 159) dX5_digest_159 rfl ?_
      apply V_vR (Y := mX5_digest) (pc := 160) dX5_digest_160 ok_X2_at ov_X2_at ln_X5_185 (c_Row_at (i := i) hW.r3 ⟨by omega, by omega⟩)
      · exact hW.r3.obj
      · rfl
      · rfl
      · rfl
      · rfl
      · rfl
      refine V_i2l (Y := mX5_digest) (pc := 163) dX5_digest_163 ⟨by omega, by omega⟩ ?_
      refine V_ladd (Y := mX5_digest) (pc := 164) dX5_digest_164 ?_
      refine V_lstore_n (Y := mX5_digest) (pc := 165) dX5_digest_165 rfl (by decide) ?_
      refine V_ldc2 (z := (31 : Int)) (Y := mX5_digest) (pc := 166) dX5_digest_166 cl_X5_255 (by decide) ?_
      refine V_lload_n (Y := mX5_digest) (pc := 169) dX5_digest_169 rfl ?_
      refine V_lmul (Y := mX5_digest) (pc := 170) dX5_digest_170 ?_
      refine V_aload_n (Y := mX5_digest) (pc := 171) dX5_digest_171 rfl ?_
      apply V_get (Y := mX5_digest) (pc := 172) dX5_digest_172 fl_X5_10
      · assumption
      · rfl
      apply V_get (Y := mX5_digest) (pc := 175) dX5_digest_175 fl_X5_266
      · assumption
      · rfl
      refine V_iload_n (Y := mX5_digest) (pc := 178) dX5_digest_178 rfl ?_
      apply V_vR (Y := mX5_digest) (pc := 179) dX5_digest_179 ok_X2_at ov_X2_at ln_X5_185 (c_Row_at (i := i) hW.r4 ⟨by omega, by omega⟩)
      · exact hW.r4.obj
      · rfl
      · rfl
      · rfl
      · rfl
      · rfl
      refine V_i2l (Y := mX5_digest) (pc := 182) dX5_digest_182 ⟨by omega, by omega⟩ ?_
      refine V_ladd (Y := mX5_digest) (pc := 183) dX5_digest_183 ?_
      refine V_lstore_n (Y := mX5_digest) (pc := 184) dX5_digest_184 rfl (by decide) ?_
      refine V_iinc (Y := mX5_digest) (pc := 185) dX5_digest_185 rfl rfl ?_
      refine V_goto (tgt := 95) (Y := mX5_digest) (pc := 188) dX5_digest_188 (by decide) ?_
      have k := ih (i + 1) (by omega) (by omega) (by omega)
      rw [show (i + 1).toNat = i.toNat + 1 by omega, dgC, hMx_4, show ((i.toNat : Nat) : Int) = i by omega] at k
      exact k
set_option maxRecDepth 100000 in
theorem lp_dg2 {hh : Int} (h : XInv w (n, now, ca, po, fo, rs) S0 S1 k0 k1 tx rb rn rf) (hG : vGood (n, now, ca, po, fo, rs)) : ∀ (m : Nat) (i : Int), 0 ≤ i → i ≤ n → (n - i).toNat < m →
    V mX5_digest (rm 3) (pR (vJ (dg2 n ca po fo rs hh)) nn w) 33 [some (.ref 0), some (vJ (hMx (dgD ca rs) hh (2 * i.toNat))), none, some (vI i)] [] nn w 0 0 := by
  intro m
  induction m with
  | zero => intro i h1 h2 h3; omega
  | succ m ih =>
    intro i hi hi2 hm
    have h0 := h
    obtain ⟨ho, hW, hK, hr⟩ := h
    obtain ⟨hn, hnow, hca, hpo, hfo, hgd, hcv, hor, hsg, hpast⟩ := hG.un
    have oW := hW.obj
    have hlc := hW.r0.len
    have hsi := hgd.2 i hi
    have k := ih (i + 1)
    rw [show (i + 1).toNat = i.toNat + 1 by omega, dgD, hMx_2, show ((i.toNat : Nat) : Int) = i by omega] at k
    refine V_iload_n (Y := mX5_digest) (pc := 33) dX5_digest_33 rfl ?_
    refine V_aload_n (Y := mX5_digest) (pc := 34) dX5_digest_34 rfl ?_
    apply V_get (Y := mX5_digest) (pc := 35) dX5_digest_35 fl_X5_10
    · assumption
    · rfl
    apply V_get (Y := mX5_digest) (pc := 38) dX5_digest_38 fl_X5_199
    · assumption
    · rfl
    refine V_icmp_ge (tgt := 93) (Y := mX5_digest) (pc := 41) dX5_digest_41 (by decide) ⟨by omega, by omega⟩ ⟨by omega, by omega⟩ (fun h_41 => ?_) (fun h_41 => ?_)
    · try have hsi := hsi (by omega)
      refine V_iconst (Y := mX5_digest) (pc := 93) dX5_digest_93 ?_
      refine V_istore_n (Y := mX5_digest) (pc := 94) dX5_digest_94 rfl ?_
      rw [dg2, show n.toNat = i.toNat by omega]
      exact lp_dg3 h0 hG ((rs 1).length + 1) 0 (by omega) (by omega) (by omega)
    · try have hsi := hsi (by omega)
      refine V_ldc2 (z := (31 : Int)) (Y := mX5_digest) (pc := 44) dX5_digest_44 cl_X5_255 (by decide) ?_
      refine V_lload_n (Y := mX5_digest) (pc := 47) dX5_digest_47 rfl ?_
      refine V_lmul (Y := mX5_digest) (pc := 48) dX5_digest_48 ?_
      refine V_aload_n (Y := mX5_digest) (pc := 49) dX5_digest_49 rfl ?_
      apply V_get (Y := mX5_digest) (pc := 50) dX5_digest_50 fl_X5_10
      · assumption
      · rfl
      refine V_iload_n (Y := mX5_digest) (pc := 53) dX5_digest_53 rfl ?_
      apply V_vR (Y := mX5_digest) (pc := 54) dX5_digest_54 ok_X4_hasCatch ov_X4_hasCatch ln_X5_257 (c_hasCatch (d := i) hW (by omega) ⟨by omega, by omega⟩)
      · assumption
      · rfl
      · rfl
      · rfl
      · rfl
      · rfl
      refine V_if_eqB (tgt := 64) (Y := mX5_digest) (pc := 57) dX5_digest_57 (by decide) (fun h_57 => ?_) (fun h_57 => ?_)
      · refine V_iconst (Y := mX5_digest) (pc := 64) dX5_digest_64 ?_
        refine V_i2l (Y := mX5_digest) (pc := 65) dX5_digest_65 ⟨by omega, by omega⟩ ?_
        refine V_ladd (Y := mX5_digest) (pc := 66) dX5_digest_66 ?_
        refine V_lstore_n (Y := mX5_digest) (pc := 67) dX5_digest_67 rfl (by decide) ?_
        refine V_ldc2 (z := (31 : Int)) (Y := mX5_digest) (pc := 68) dX5_digest_68 cl_X5_255 (by decide) ?_
        refine V_lload_n (Y := mX5_digest) (pc := 71) dX5_digest_71 rfl ?_
        refine V_lmul (Y := mX5_digest) (pc := 72) dX5_digest_72 ?_
        refine V_aload_n (Y := mX5_digest) (pc := 73) dX5_digest_73 rfl ?_
        apply V_get (Y := mX5_digest) (pc := 74) dX5_digest_74 fl_X5_10
        · assumption
        · rfl
        apply V_get (Y := mX5_digest) (pc := 77) dX5_digest_77 fl_X5_221
        · assumption
        · rfl
        refine V_iload_n (Y := mX5_digest) (pc := 80) dX5_digest_80 rfl ?_
        apply V_vR (Y := mX5_digest) (pc := 81) dX5_digest_81 ok_X2_at ov_X2_at ln_X5_185 (c_Row_at (i := i) hW.r0 ⟨by omega, by omega⟩)
        · exact hW.r0.obj
        · rfl
        · rfl
        · rfl
        · rfl
        · rfl
        refine V_i2l (Y := mX5_digest) (pc := 84) dX5_digest_84 ⟨by omega, by omega⟩ ?_
        refine V_ladd (Y := mX5_digest) (pc := 85) dX5_digest_85 ?_
        refine V_lstore_n (Y := mX5_digest) (pc := 86) dX5_digest_86 rfl (by decide) ?_
        refine V_iinc (Y := mX5_digest) (pc := 87) dX5_digest_87 rfl rfl ?_
        refine V_goto (tgt := 33) (Y := mX5_digest) (pc := 90) dX5_digest_90 (by decide) ?_
        first
          | (rw [bI_t h_57] at k; exact k (by omega) (by omega) (by omega))
          | (rw [bI_f h_57] at k; exact k (by omega) (by omega) (by omega))
      · refine V_iconst (Y := mX5_digest) (pc := 60) dX5_digest_60 ?_
        refine V_goto (tgt := 65) (Y := mX5_digest) (pc := 61) dX5_digest_61 (by decide) ?_
        refine V_i2l (Y := mX5_digest) (pc := 65) dX5_digest_65 ⟨by omega, by omega⟩ ?_
        refine V_ladd (Y := mX5_digest) (pc := 66) dX5_digest_66 ?_
        refine V_lstore_n (Y := mX5_digest) (pc := 67) dX5_digest_67 rfl (by decide) ?_
        refine V_ldc2 (z := (31 : Int)) (Y := mX5_digest) (pc := 68) dX5_digest_68 cl_X5_255 (by decide) ?_
        refine V_lload_n (Y := mX5_digest) (pc := 71) dX5_digest_71 rfl ?_
        refine V_lmul (Y := mX5_digest) (pc := 72) dX5_digest_72 ?_
        refine V_aload_n (Y := mX5_digest) (pc := 73) dX5_digest_73 rfl ?_
        apply V_get (Y := mX5_digest) (pc := 74) dX5_digest_74 fl_X5_10
        · assumption
        · rfl
        apply V_get (Y := mX5_digest) (pc := 77) dX5_digest_77 fl_X5_221
        · assumption
        · rfl
        refine V_iload_n (Y := mX5_digest) (pc := 80) dX5_digest_80 rfl ?_
        apply V_vR (Y := mX5_digest) (pc := 81) dX5_digest_81 ok_X2_at ov_X2_at ln_X5_185 (c_Row_at (i := i) hW.r0 ⟨by omega, by omega⟩)
        · exact hW.r0.obj
        · rfl
        · rfl
        · rfl
        · rfl
        · rfl
        refine V_i2l (Y := mX5_digest) (pc := 84) dX5_digest_84 ⟨by omega, by omega⟩ ?_
        refine V_ladd (Y := mX5_digest) (pc := 85) dX5_digest_85 ?_
        refine V_lstore_n (Y := mX5_digest) (pc := 86) dX5_digest_86 rfl (by decide) ?_
        refine V_iinc (Y := mX5_digest) (pc := 87) dX5_digest_87 rfl rfl ?_
        refine V_goto (tgt := 33) (Y := mX5_digest) (pc := 90) dX5_digest_90 (by decide) ?_
        first
          | (rw [bI_t h_57] at k; exact k (by omega) (by omega) (by omega))
          | (rw [bI_f h_57] at k; exact k (by omega) (by omega) (by omega))
set_option maxRecDepth 100000 in
theorem lp_dg1 (h : XInv w (n, now, ca, po, fo, rs) S0 S1 k0 k1 tx rb rn rf) (hG : vGood (n, now, ca, po, fo, rs)) : ∀ (m : Nat) (i : Int), 0 ≤ i → i ≤ 7 → (7 - i).toNat < m →
    V mX5_digest (rm 3) (pR (vJ (fDigest (n, now, ca, po, fo, rs) tx)) nn w) 6 [some (.ref 0), some (vJ (hMx (fun i => cntOf (n, now, ca, po, fo, rs) tx i) 761 i.toNat)), none, some (vI i)] [] nn w 0 0 := by
  intro m
  induction m with
  | zero => intro i h1 h2 h3; omega
  | succ m ih =>
    intro i hi hi2 hm
    obtain ⟨hn, hnow, hca, hpo, hfo, hgd, hcv, hor, hsg, hpast⟩ := hG.un
    have hrg := cntOf_rng h hn hnow i
    have hoo := h.1
    refine V_iload_n (Y := mX5_digest) (pc := 6) dX5_digest_6 rfl ?_
    refine V_bipush (Y := mX5_digest) (pc := 7) dX5_digest_7 ⟨by decide, by decide⟩ ?_
    refine V_icmp_ge (tgt := 31) (Y := mX5_digest) (pc := 9) dX5_digest_9 (by decide) ⟨by omega, by omega⟩ ⟨by omega, by omega⟩ (fun h_9 => ?_) (fun h_9 => ?_)
    · refine V_iconst (Y := mX5_digest) (pc := 31) dX5_digest_31 ?_
      refine V_istore_n (Y := mX5_digest) (pc := 32) dX5_digest_32 rfl ?_
      rw [show i.toNat = 7 by omega]
      exact lp_dg2 h hG (n.toNat + 1) 0 (by omega) (by omega) (by omega)
    · refine V_ldc2 (z := (31 : Int)) (Y := mX5_digest) (pc := 12) dX5_digest_12 cl_X5_255 (by decide) ?_
      refine V_lload_n (Y := mX5_digest) (pc := 15) dX5_digest_15 rfl ?_
      refine V_lmul (Y := mX5_digest) (pc := 16) dX5_digest_16 ?_
      refine V_aload_n (Y := mX5_digest) (pc := 17) dX5_digest_17 rfl ?_
      refine V_iload_n (Y := mX5_digest) (pc := 18) dX5_digest_18 rfl ?_
      apply V_vR (Y := mX5_digest) (pc := 19) dX5_digest_19 ok_X5_countOf ov_X5_countOf ln_X5_250 (c_countOf (a := i) h (by omega))
      · assumption
      · rfl
      · rfl
      · rfl
      · rfl
      · rfl
      refine V_i2l (Y := mX5_digest) (pc := 22) dX5_digest_22 ⟨by omega, by omega⟩ ?_
      refine V_ladd (Y := mX5_digest) (pc := 23) dX5_digest_23 ?_
      refine V_lstore_n (Y := mX5_digest) (pc := 24) dX5_digest_24 rfl (by decide) ?_
      refine V_iinc (Y := mX5_digest) (pc := 25) dX5_digest_25 rfl rfl ?_
      refine V_goto (tgt := 6) (Y := mX5_digest) (pc := 28) dX5_digest_28 (by decide) ?_
      have k := ih (i + 1) (by omega) (by omega) (by omega)
      rw [show (i + 1).toNat = i.toNat + 1 by omega, hMx, show ((i.toNat : Nat) : Int) = i by omega] at k
      exact k
set_option maxRecDepth 100000 in
theorem cx_digest (h : XInv w (n, now, ca, po, fo, rs) S0 S1 k0 k1 tx rb rn rf) (hG : vGood (n, now, ca, po, fo, rs)) : Ctr mX5_digest (rm 3) [.ref 0] nn w (pR (vJ (fDigest (n, now, ca, po, fo, rs) tx)) nn w) := by
  refine Ctr_of (lv := [some (.ref 0), none, none, none]) (by decide +kernel) rfl rfl ?_
  refine V_ldc2 (z := (761 : Int)) (Y := mX5_digest) (pc := 0) dX5_digest_0 cl_X5_253 (by decide) ?_
  refine V_lstore_n (Y := mX5_digest) (pc := 3) dX5_digest_3 rfl (by decide) ?_
  refine V_iconst (Y := mX5_digest) (pc := 4) dX5_digest_4 ?_
  refine V_istore_n (Y := mX5_digest) (pc := 5) dX5_digest_5 rfl ?_
  exact lp_dg1 h hG 8 0 (by omega) (by omega) (by omega)
theorem seen_cI {P : Int → Prop} {i : Int} {m : Nat} (h : (m : Int) = i) : ftC P (m + 1) = ftC P m + cI (P i) := by rw [ftC, h]
set_option maxRecDepth 100000 in
theorem lp_fits {a : Int} (h : XInv w (n, now, ca, po, fo, rs) S0 S1 k0 k1 tx rb rn rf) (hG : vGood (n, now, ca, po, fo, rs)) (ha : 0 ≤ a ∧ a ≤ 1) (P : Int → Prop) (hP : P = fun x => seenP ca rs (iI x) (rs 6).length) (N : Nat) (hN : N = p2 (rs 1).length) (hN2 : N ≤ 1024) : ∀ (m : Nat) (i : Int), 0 ≤ i → i ≤ N → (N - i).toNat < m →
    V mX5_fits (rm 6) (pI (fun z w' => z = fFits (n, now, ca, po, fo, rs) a ∧ XInv w' (n, now, ca, po, fo, rs) S0 S1 k0 k1 tx (tl1 (-2) z rb) (tl1 (-3) z rn) (tl1 (-4) z rf) ∧ frX w w') nn) 37 [some (.ref 0), some (vI a), some (vI (N : Int)), some (vI (ftC P i.toNat)), some (vI (ftL P i.toNat)), some (vI i)] [] nn w 0 0 := by
  intro m
  induction m with
  | zero => intro i h1 h2 h3; omega
  | succ m ih =>
    intro i hi hi2 hm
    have h0 := h
    obtain ⟨ho, hW, hK, hr⟩ := h
    obtain ⟨hn, hnow, hca, hpo, hfo, hgd, hcv, hor, hsg, hpast⟩ := hG.un
    have oW := hW.obj
    have hrg := ftC_rng P i.toNat
    have hlp := ftL_pos P i.toNat
    have hlr := ftL_rng P i.toNat
    have hif : ¬ ¬ (0 ≤ a ∧ a ≤ 1) := fun q => q ha
    have k := ih (i + 1)
    rw [show (i + 1).toNat = i.toNat + 1 by omega, ftC, ftL, show ((i.toNat : Nat) : Int) = i by omega] at k
    have hPi : seenP ca rs (iI i) (rs 6).length = P i := by rw [hP]
    refine V_iload (Y := mX5_fits) (pc := 37) dX5_fits_37 rfl ?_
    refine V_iload_n (Y := mX5_fits) (pc := 39) dX5_fits_39 rfl ?_
    refine V_icmp_ge (tgt := 75) (Y := mX5_fits) (pc := 40) dX5_fits_40 (by decide) ⟨by omega, by omega⟩ ⟨by omega, by omega⟩ (fun h_40 => ?_) (fun h_40 => ?_)
    · refine V_iload_n (Y := mX5_fits) (pc := 75) dX5_fits_75 rfl ?_
      refine V_if_ne (tgt := 81) (Y := mX5_fits) (pc := 76) dX5_fits_76 (by decide) ⟨by omega, by omega⟩ (fun h_76 => ?_) (fun h_76 => ?_)
      · refine V_iload_n (Y := mX5_fits) (pc := 81) dX5_fits_81 rfl ?_
        refine V_if_ne (tgt := 94) (Y := mX5_fits) (pc := 82) dX5_fits_82 (by decide) ⟨by omega, by omega⟩ (fun h_82 => ?_) (fun h_82 => ?_)
        · refine V_iload (Y := mX5_fits) (pc := 94) dX5_fits_94 rfl ?_
          refine V_iret (Y := mX5_fits) (pc := 96) dX5_fits_96 rfl (Nat.le_of_ble_eq_true rfl) (Nat.le_of_ble_eq_true rfl) ?_
          first
            | (rw [show fFits (n, now, ca, po, fo, rs) a = ftL P i.toNat from (if_neg hif).trans ((if_neg (by omega)).trans ((if_neg (by rw [← hN, ← hP, show N = i.toNat by omega]; exact h_82)).trans (by rw [hP, ← hN, show i.toNat = N by omega])))]
               exact pI_of ⟨rfl, h0.tl0 (by have := hlp h_82; omega), frX.refl w⟩)
            | (rw [show fFits (n, now, ca, po, fo, rs) a = -3 from (if_neg hif).trans ((if_neg (by omega)).trans (if_pos (by rw [← hN, ← hP, show N = i.toNat by omega]; exact h_82)))]
               exact pI_of ⟨rfl, XInv.told hr hW hK (fun j hj => rfl) g3 f3⟩)
        · refine V_aload_n (Y := mX5_fits) (pc := 85) dX5_fits_85 rfl ?_
          refine V_bipush (Y := mX5_fits) (pc := 86) dX5_fits_86 ⟨by decide, by decide⟩ ?_
          apply V_vI (Y := mX5_fits) (pc := 88) dX5_fits_88 ok_X5_counted ov_X5_counted ln_X5_85 (c_told (z := -3) ho ⟨by omega, by omega⟩)
          · assumption
          · rfl
          · rfl
          · rfl
          · rfl
          · rfl
          rintro z_88 w_88 ⟨hz2, g3, f3⟩
          subst hz2
          refine V_goto (tgt := 96) (Y := mX5_fits) (pc := 91) dX5_fits_91 (by decide) ?_
          refine V_iret (Y := mX5_fits) (pc := 96) dX5_fits_96 rfl (Nat.le_of_ble_eq_true rfl) (Nat.le_of_ble_eq_true rfl) ?_
          first
            | (rw [show fFits (n, now, ca, po, fo, rs) a = ftL P i.toNat from (if_neg hif).trans ((if_neg (by omega)).trans ((if_neg (by rw [← hN, ← hP, show N = i.toNat by omega]; exact h_82)).trans (by rw [hP, ← hN, show i.toNat = N by omega])))]
               exact pI_of ⟨rfl, h0.tl0 (by have := hlp h_82; omega), frX.refl w⟩)
            | (rw [show fFits (n, now, ca, po, fo, rs) a = -3 from (if_neg hif).trans ((if_neg (by omega)).trans (if_pos (by rw [← hN, ← hP, show N = i.toNat by omega]; exact h_82)))]
               exact pI_of ⟨rfl, XInv.told hr hW hK (fun j hj => rfl) g3 f3⟩)
      · refine V_iload_n (Y := mX5_fits) (pc := 79) dX5_fits_79 rfl ?_
        refine V_iret (Y := mX5_fits) (pc := 80) dX5_fits_80 rfl (Nat.le_of_ble_eq_true rfl) (Nat.le_of_ble_eq_true rfl) ?_
        rw [show fFits (n, now, ca, po, fo, rs) a = ftC P i.toNat from (if_neg hif).trans ((if_pos (by omega)).trans (by rw [hP, ← hN, show i.toNat = N by omega]))]
        exact pI_of ⟨rfl, h0.tl0 (by omega), frX.refl w⟩
    · refine V_aload_n (Y := mX5_fits) (pc := 43) dX5_fits_43 rfl ?_
      apply V_get (Y := mX5_fits) (pc := 44) dX5_fits_44 fl_X5_10
      · assumption
      · rfl
      refine V_iload (Y := mX5_fits) (pc := 47) dX5_fits_47 rfl ?_
      apply V_vR (Y := mX5_fits) (pc := 49) dX5_fits_49 ok_X4_areSightsSo ov_X4_areSightsSo ln_X5_243 (c_isSeenBy (x := iI i) hW ⟨by omega, by omega⟩ hcv hca hsg)
      · assumption
      · rfl
      · rfl
      · rfl
      · rfl
      · rfl
      rw [hPi]
      refine V_if_ne (tgt := 58) (Y := mX5_fits) (pc := 52) dX5_fits_52 (by decide) (cI_R _) (fun h_52 => ?_) (fun h_52 => ?_)
      · refine V_iload_n (Y := mX5_fits) (pc := 58) dX5_fits_58 rfl ?_
        refine V_if_ne (tgt := 66) (Y := mX5_fits) (pc := 59) dX5_fits_59 (by decide) ⟨by omega, by omega⟩ (fun h_59 => ?_) (fun h_59 => ?_)
        · refine V_iinc (Y := mX5_fits) (pc := 66) dX5_fits_66 rfl rfl ?_
          refine V_iinc (Y := mX5_fits) (pc := 69) dX5_fits_69 rfl rfl ?_
          refine V_goto (tgt := 37) (Y := mX5_fits) (pc := 72) dX5_fits_72 (by decide) ?_
          first
            | (have hp : P i := Classical.byContradiction (fun q => h_52 (cI_0.mpr q))
               rw [cI_1.mpr hp, if_pos ⟨h_59, hp⟩] at k
               exact k (by omega) (by omega) (by omega))
            | (have hp : P i := Classical.byContradiction (fun q => h_52 (cI_0.mpr q))
               rw [cI_1.mpr hp, if_neg (fun q => h_59 q.1)] at k
               exact k (by omega) (by omega) (by omega))
            | (have hp : ¬ P i := cI_0.mp h_52
               rw [cI_0.mpr hp, if_neg (fun q => hp q.2), Int.add_zero] at k
               exact k (by omega) (by omega) (by omega))
        · refine V_iload (Y := mX5_fits) (pc := 62) dX5_fits_62 rfl ?_
          refine V_istore (Y := mX5_fits) (pc := 64) dX5_fits_64 rfl ?_
          refine V_iinc (Y := mX5_fits) (pc := 66) dX5_fits_66 rfl rfl ?_
          refine V_iinc (Y := mX5_fits) (pc := 69) dX5_fits_69 rfl rfl ?_
          refine V_goto (tgt := 37) (Y := mX5_fits) (pc := 72) dX5_fits_72 (by decide) ?_
          first
            | (have hp : P i := Classical.byContradiction (fun q => h_52 (cI_0.mpr q))
               rw [cI_1.mpr hp, if_pos ⟨h_59, hp⟩] at k
               exact k (by omega) (by omega) (by omega))
            | (have hp : P i := Classical.byContradiction (fun q => h_52 (cI_0.mpr q))
               rw [cI_1.mpr hp, if_neg (fun q => h_59 q.1)] at k
               exact k (by omega) (by omega) (by omega))
            | (have hp : ¬ P i := cI_0.mp h_52
               rw [cI_0.mpr hp, if_neg (fun q => hp q.2), Int.add_zero] at k
               exact k (by omega) (by omega) (by omega))
      · refine V_goto (tgt := 69) (Y := mX5_fits) (pc := 55) dX5_fits_55 (by decide) ?_
        refine V_iinc (Y := mX5_fits) (pc := 69) dX5_fits_69 rfl rfl ?_
        refine V_goto (tgt := 37) (Y := mX5_fits) (pc := 72) dX5_fits_72 (by decide) ?_
        first
          | (have hp : P i := Classical.byContradiction (fun q => h_52 (cI_0.mpr q))
             rw [cI_1.mpr hp, if_pos ⟨h_59, hp⟩] at k
             exact k (by omega) (by omega) (by omega))
          | (have hp : P i := Classical.byContradiction (fun q => h_52 (cI_0.mpr q))
             rw [cI_1.mpr hp, if_neg (fun q => h_59 q.1)] at k
             exact k (by omega) (by omega) (by omega))
          | (have hp : ¬ P i := cI_0.mp h_52
             rw [cI_0.mpr hp, if_neg (fun q => hp q.2), Int.add_zero] at k
             exact k (by omega) (by omega) (by omega))
theorem p2_10 : ∀ k, k ≤ 10 → p2 k ≤ 1024 := by decide
set_option maxRecDepth 100000 in
theorem cx_fits {a : Int} (h : XInv w (n, now, ca, po, fo, rs) S0 S1 k0 k1 tx rb rn rf) (hG : vGood (n, now, ca, po, fo, rs)) (ha : inR a) : Ctr mX5_fits (rm 6) [.ref 0, vI a] nn w (pI (fun z w' => z = fFits (n, now, ca, po, fo, rs) a ∧ XInv w' (n, now, ca, po, fo, rs) S0 S1 k0 k1 tx (tl1 (-2) z rb) (tl1 (-3) z rn) (tl1 (-4) z rf) ∧ frX w w') nn) := by
  refine Ctr_of (lv := [some (.ref 0), some (vI a), none, none, none, none]) (by decide +kernel) rfl rfl ?_
  have h0 := h
  obtain ⟨ho, hW, hK, hr⟩ := h
  have oW := hW.obj
  have hl := hW.r1.len
  have hp := p2_10 (rs 1).length hl.1
  refine V_iload_n (Y := mX5_fits) (pc := 0) dX5_fits_0 rfl ?_
  refine V_if_lt (tgt := 9) (Y := mX5_fits) (pc := 1) dX5_fits_1 (by decide) ⟨by omega, by omega⟩ (fun h_1 => ?_) (fun h_1 => ?_)
  · refine V_aload_n (Y := mX5_fits) (pc := 9) dX5_fits_9 rfl ?_
    refine V_bipush (Y := mX5_fits) (pc := 10) dX5_fits_10 ⟨by decide, by decide⟩ ?_
    apply V_vI (Y := mX5_fits) (pc := 12) dX5_fits_12 ok_X5_counted ov_X5_counted ln_X5_85 (c_told (z := -2) ho ⟨by omega, by omega⟩)
    · assumption
    · rfl
    · rfl
    · rfl
    · rfl
    · rfl
    rintro z_12 w_12 ⟨hz2, g3, f3⟩
    subst hz2
    refine V_iret (Y := mX5_fits) (pc := 15) dX5_fits_15 rfl (Nat.le_of_ble_eq_true rfl) (Nat.le_of_ble_eq_true rfl) ?_
    rw [show fFits (n, now, ca, po, fo, rs) a = -2 from if_pos (by omega)]
    exact pI_of ⟨rfl, XInv.told hr hW hK (fun j hj => rfl) g3 f3⟩
  · refine V_iload_n (Y := mX5_fits) (pc := 4) dX5_fits_4 rfl ?_
    refine V_iconst (Y := mX5_fits) (pc := 5) dX5_fits_5 ?_
    refine V_icmp_le (tgt := 16) (Y := mX5_fits) (pc := 6) dX5_fits_6 (by decide) ⟨by omega, by omega⟩ ⟨by omega, by omega⟩ (fun h_6 => ?_) (fun h_6 => ?_)
    · refine V_iconst (Y := mX5_fits) (pc := 16) dX5_fits_16 ?_
      refine V_aload_n (Y := mX5_fits) (pc := 17) dX5_fits_17 rfl ?_
      apply V_get (Y := mX5_fits) (pc := 18) dX5_fits_18 fl_X5_10
      · assumption
      · rfl
      apply V_get (Y := mX5_fits) (pc := 21) dX5_fits_21 fl_X5_182
      · assumption
      · rfl
      apply V_vR (Y := mX5_fits) (pc := 24) dX5_fits_24 ok_X2_size ov_X2_size ln_X5_109 (c_Row_size hW.r1)
      · exact hW.r1.obj
      · rfl
      · rfl
      · rfl
      · rfl
      · rfl
      refine V_ishl (Y := mX5_fits) (pc := 27) dX5_fits_27 (iI_shl2 (by omega) (by omega)) ?_
      rw [show (((rs 1).length : Int)).toNat = (rs 1).length by omega]
      refine V_istore_n (Y := mX5_fits) (pc := 28) dX5_fits_28 rfl ?_
      refine V_iconst (Y := mX5_fits) (pc := 29) dX5_fits_29 ?_
      refine V_istore_n (Y := mX5_fits) (pc := 30) dX5_fits_30 rfl ?_
      refine V_iconst (Y := mX5_fits) (pc := 31) dX5_fits_31 ?_
      refine V_istore (Y := mX5_fits) (pc := 32) dX5_fits_32 rfl ?_
      refine V_iconst (Y := mX5_fits) (pc := 34) dX5_fits_34 ?_
      refine V_istore (Y := mX5_fits) (pc := 35) dX5_fits_35 rfl ?_
      exact lp_fits h0 hG (by omega) _ rfl _ rfl hp (p2 (rs 1).length + 1) 0 (by omega) (by omega) (by omega)
    · refine V_aload_n (Y := mX5_fits) (pc := 9) dX5_fits_9 rfl ?_
      refine V_bipush (Y := mX5_fits) (pc := 10) dX5_fits_10 ⟨by decide, by decide⟩ ?_
      apply V_vI (Y := mX5_fits) (pc := 12) dX5_fits_12 ok_X5_counted ov_X5_counted ln_X5_85 (c_told (z := -2) ho ⟨by omega, by omega⟩)
      · assumption
      · rfl
      · rfl
      · rfl
      · rfl
      · rfl
      rintro z_12 w_12 ⟨hz2, g3, f3⟩
      subst hz2
      refine V_iret (Y := mX5_fits) (pc := 15) dX5_fits_15 rfl (Nat.le_of_ble_eq_true rfl) (Nat.le_of_ble_eq_true rfl) ?_
      rw [show fFits (n, now, ca, po, fo, rs) a = -2 from if_pos (by omega)]
      exact pI_of ⟨rfl, XInv.told hr hW hK (fun j hj => rfl) g3 f3⟩
end CLS
