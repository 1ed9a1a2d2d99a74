/-! THE LAW: its calls -/
set_option maxRecDepth 100000 in
set_option maxHeartbeats 4000000 in
theorem lw_write {E : EN} {G : CX} {n i : Nat} {xs : Nat → Int32} {M : Mem} {S : GS} (H : lwH E G n xs) (hS : lwS M S) (hi : i + 4 ≤ n) (kk : ∀ (M' : Mem) (S' : GS), lwS M' S' → AW E mL_law G 78 1218 1038 [vS 40, vR 0, vR 65, vI i] [] M') : AW E mL_law G 78 1218 168 [vS 40, vR 0, vR 65, vI i] [] M := by
  obtain ⟨pA, pM, hR, hX, hb, hbA, hL⟩ := H
  obtain ⟨hx, hy, hw, hwx⟩ := hS
  refine A_aload_n dL_law_168 rfl ?_
  refine A_aload_nS dL_law_169 rfl ?_
  refine A_iload_n dL_law_170 rfl ?_
  refine A_iconst dL_law_171 (by decide) ?_
  refine A_iadd dL_law_172 ⟨by omega, by omega⟩ ?_
  refine A_sld dL_law_173 hX hb hbA (by omega) (by omega) ?_
  refine A_i2l dL_law_174 ?_
  refine A_bipush dL_law_175 bp_32 (by decide) ?_
  refine A_lshl (z := (i64 (sx xs ((i : Int) + 1)) <<< ((i32 32).toInt64 &&& 63)).toInt) dL_law_177 (i64_of _).symm (rngL_toInt _) ?_
  refine A_aload_nS dL_law_178 rfl ?_
  refine A_iload_n dL_law_179 rfl ?_
  refine A_iconst dL_law_180 (by decide) ?_
  refine A_iadd dL_law_181 ⟨by omega, by omega⟩ ?_
  refine A_sld dL_law_182 hX hb hbA (by omega) (by omega) ?_
  refine A_i2l dL_law_183 ?_
  refine A_ldc2 dL_law_184 kc_RL_13 (by decide) ?_
  refine A_land (z := (i64 (sx xs ((i : Int) + 2)) &&& i64 4294967295).toInt) dL_law_187 (i64_of _).symm (rngL_toInt _) ?_
  refine A_lor (z := ((i64 ((i64 (sx xs ((i : Int) + 1)) <<< ((i32 32).toInt64 &&& 63)).toInt) ||| i64 ((i64 (sx xs ((i : Int) + 2)) &&& i64 4294967295).toInt)).toInt)) dL_law_188 (i64_of _).symm (rngL_toInt _) ?_
  refine A_aload_nS dL_law_189 rfl ?_
  refine A_iload_n dL_law_190 rfl ?_
  refine A_iconst dL_law_191 (by decide) ?_
  refine A_iadd dL_law_192 ⟨by omega, by omega⟩ ?_
  refine A_sld dL_law_193 hX hb hbA (by omega) (by omega) ?_
  refine A_vI2 (mj := mX7_write) dL_law_194 hR (by decide) ok_X7_write mv_X7_write ml_RL_15 pA.1 rfl rfl rfl (x_write pA hx hw) (fun zx Mx gx kx qx => ?_)
  obtain ⟨a1, a2, a3⟩ := qx
  have hy1 := rY_65 hy hw.1 a2
  refine A_aload_n dL_law_197 rfl ?_
  refine A_aload_nS dL_law_198 rfl ?_
  refine A_iload_n dL_law_199 rfl ?_
  refine A_iconst dL_law_200 (by decide) ?_
  refine A_iadd dL_law_201 ⟨by omega, by omega⟩ ?_
  refine A_sld dL_law_202 hX hb hbA (by omega) (by omega) ?_
  refine A_i2l dL_law_203 ?_
  refine A_bipush dL_law_204 bp_32 (by decide) ?_
  refine A_lshl (z := (i64 (sx xs ((i : Int) + 1)) <<< ((i32 32).toInt64 &&& 63)).toInt) dL_law_206 (i64_of _).symm (rngL_toInt _) ?_
  refine A_aload_nS dL_law_207 rfl ?_
  refine A_iload_n dL_law_208 rfl ?_
  refine A_iconst dL_law_209 (by decide) ?_
  refine A_iadd dL_law_210 ⟨by omega, by omega⟩ ?_
  refine A_sld dL_law_211 hX hb hbA (by omega) (by omega) ?_
  refine A_i2l dL_law_212 ?_
  refine A_ldc2 dL_law_213 kc_RL_13 (by decide) ?_
  refine A_land (z := (i64 (sx xs ((i : Int) + 2)) &&& i64 4294967295).toInt) dL_law_216 (i64_of _).symm (rngL_toInt _) ?_
  refine A_lor (z := ((i64 ((i64 (sx xs ((i : Int) + 1)) <<< ((i32 32).toInt64 &&& 63)).toInt) ||| i64 ((i64 (sx xs ((i : Int) + 2)) &&& i64 4294967295).toInt)).toInt)) dL_law_217 (i64_of _).symm (rngL_toInt _) ?_
  refine A_aload_nS dL_law_218 rfl ?_
  refine A_iload_n dL_law_219 rfl ?_
  refine A_iconst dL_law_220 (by decide) ?_
  refine A_iadd dL_law_221 ⟨by omega, by omega⟩ ?_
  refine A_sld dL_law_222 hX hb hbA (by omega) (by omega) ?_
  refine A_vI2 (mj := mX8_write) dL_law_223 hR (by decide) ok_X8_write mv_X8_write ml_RL_19 pM.1 rfl rfl rfl (m_write (m := 65) pM hy1 hw) (fun zm Mm gm km qm => ?_)
  obtain ⟨b1, b2, b3⟩ := qm
  have hx1 := rX_65 a1 b2
  refine A_icmp_eq (tgt := 1038) dL_law_226 (by decide) (fun h => kk _ _ ⟨hx1, b1, (w_write _ _ hw hwx).1, (w_write _ _ hw hwx).2⟩) (fun h => absurd (a3.trans b3.symm) h)

set_option maxRecDepth 100000 in
set_option maxHeartbeats 4000000 in
theorem lw_erase {E : EN} {G : CX} {n i : Nat} {xs : Nat → Int32} {M : Mem} {S : GS} (H : lwH E G n xs) (hS : lwS M S) (hi : i + 4 ≤ n) (kk : ∀ (M' : Mem) (S' : GS), lwS M' S' → AW E mL_law G 78 1218 1038 [vS 40, vR 0, vR 65, vI i] [] M') : AW E mL_law G 78 1218 231 [vS 40, vR 0, vR 65, vI i] [] M := by
  obtain ⟨pA, pM, hR, hX, hb, hbA, hL⟩ := H
  obtain ⟨hx, hy, hw, hwx⟩ := hS
  refine A_aload_n dL_law_231 rfl ?_
  refine A_vI0 (mj := mX7_erase) dL_law_232 hR (by decide) ok_X7_erase mv_X7_erase ml_RL_20 pA.1 rfl rfl rfl (x_erase pA hx hw) (fun zx Mx gx kx qx => ?_)
  obtain ⟨a1, a2, a3⟩ := qx
  have hy1 := rY_65 hy hw.1 a2
  refine A_aload_n dL_law_235 rfl ?_
  refine A_vI0 (mj := mX8_erase) dL_law_236 hR (by decide) ok_X8_erase mv_X8_erase ml_RL_24 pM.1 rfl rfl rfl (m_erase (m := 65) pM hy1 hw) (fun zm Mm gm km qm => ?_)
  obtain ⟨b1, b2, b3⟩ := qm
  have hx1 := rX_65 a1 b2
  refine A_icmp_eq (tgt := 1038) dL_law_239 (by decide) (fun h => kk _ _ ⟨hx1, b1, (w_erase hw).1, (w_erase (x := sX S) hw).2⟩) (fun h => absurd (a3.trans b3.symm) h)

set_option maxRecDepth 100000 in
set_option maxHeartbeats 4000000 in
theorem lw_fault {E : EN} {G : CX} {n i : Nat} {xs : Nat → Int32} {M : Mem} {S : GS} (H : lwH E G n xs) (hS : lwS M S) (hi : i + 4 ≤ n) (kk : ∀ (M' : Mem) (S' : GS), lwS M' S' → AW E mL_law G 78 1218 1038 [vS 40, vR 0, vR 65, vI i] [] M') : AW E mL_law G 78 1218 244 [vS 40, vR 0, vR 65, vI i] [] M := by
  obtain ⟨pA, pM, hR, hX, hb, hbA, hL⟩ := H
  obtain ⟨hx, hy, hw, hwx⟩ := hS
  refine A_aload_n dL_law_244 rfl ?_
  refine A_vI0 (mj := mX7_fault) dL_law_245 hR (by decide) ok_X7_fault mv_X7_fault ml_RL_25 pA.1 rfl rfl rfl (x_fault pA hx hw hwx) (fun zx Mx gx kx qx => ?_)
  obtain ⟨a1, a2, a3⟩ := qx
  have hy1 := rY_65 hy hw.1 a2
  refine A_aload_n dL_law_248 rfl ?_
  refine A_vI0 (mj := mX8_fault) dL_law_249 hR (by decide) ok_X8_fault mv_X8_fault ml_RL_28 pM.1 rfl rfl rfl (m_fault (m := 65) pM hy1 hw hwx) (fun zm Mm gm km qm => ?_)
  obtain ⟨b1, b2, b3⟩ := qm
  have hx1 := rX_65 a1 b2
  refine A_icmp_eq (tgt := 1038) dL_law_252 (by decide) (fun h => kk _ _ ⟨hx1, b1, hw, hwx⟩) (fun h => absurd (a3.trans b3.symm) h)

set_option maxRecDepth 100000 in
set_option maxHeartbeats 4000000 in
theorem lw_office {E : EN} {G : CX} {n i : Nat} {xs : Nat → Int32} {M : Mem} {S : GS} (H : lwH E G n xs) (hS : lwS M S) (hi : i + 4 ≤ n) (kk : ∀ (M' : Mem) (S' : GS), lwS M' S' → AW E mL_law G 78 1218 1038 [vS 40, vR 0, vR 65, vI i] [] M') : AW E mL_law G 78 1218 257 [vS 40, vR 0, vR 65, vI i] [] M := by
  obtain ⟨pA, pM, hR, hX, hb, hbA, hL⟩ := H
  obtain ⟨hx, hy, hw, hwx⟩ := hS
  refine A_aload_n dL_law_257 rfl ?_
  refine A_vI0 (mj := mX7_office) dL_law_258 hR (by decide) ok_X7_office mv_X7_office ml_RL_29 pA.1 rfl rfl rfl (x_office pA hx hw hwx) (fun zx Mx gx kx qx => ?_)
  obtain ⟨a1, a2, a3⟩ := qx
  have hy1 := rY_65 hy hw.1 a2
  refine A_aload_n dL_law_261 rfl ?_
  refine A_vI0 (mj := mX8_office) dL_law_262 hR (by decide) ok_X8_office mv_X8_office ml_RL_32 pM.1 rfl rfl rfl (m_office (m := 65) pM hy1 hw hwx) (fun zm Mm gm km qm => ?_)
  obtain ⟨b1, b2, b3⟩ := qm
  have hx1 := rX_65 a1 b2
  refine A_icmp_eq (tgt := 1038) dL_law_265 (by decide) (fun h => kk _ _ ⟨hx1, b1, (w_office hw hwx).1, (w_office hw hwx).2⟩) (fun h => absurd (a3.trans b3.symm) h)

set_option maxRecDepth 100000 in
set_option maxHeartbeats 4000000 in
theorem lw_desk {E : EN} {G : CX} {n i : Nat} {xs : Nat → Int32} {M : Mem} {S : GS} (H : lwH E G n xs) (hS : lwS M S) (hi : i + 4 ≤ n) (kk : ∀ (M' : Mem) (S' : GS), lwS M' S' → AW E mL_law G 78 1218 1038 [vS 40, vR 0, vR 65, vI i] [] M') : AW E mL_law G 78 1218 270 [vS 40, vR 0, vR 65, vI i] [] M := by
  obtain ⟨pA, pM, hR, hX, hb, hbA, hL⟩ := H
  obtain ⟨hx, hy, hw, hwx⟩ := hS
  refine A_aload_n dL_law_270 rfl ?_
  refine A_aload_nS dL_law_271 rfl ?_
  refine A_iload_n dL_law_272 rfl ?_
  refine A_iconst dL_law_273 (by decide) ?_
  refine A_iadd dL_law_274 ⟨by omega, by omega⟩ ?_
  refine A_sld dL_law_275 hX hb hbA (by omega) (by omega) ?_
  refine A_aload_nS dL_law_276 rfl ?_
  refine A_iload_n dL_law_277 rfl ?_
  refine A_iconst dL_law_278 (by decide) ?_
  refine A_iadd dL_law_279 ⟨by omega, by omega⟩ ?_
  refine A_sld dL_law_280 hX hb hbA (by omega) (by omega) ?_
  refine A_vI2 (mj := mX7_desk) dL_law_281 hR (by decide) ok_X7_desk mv_X7_desk ml_RL_33 pA.1 rfl rfl rfl (x_desk pA hx hw) (fun zx Mx gx kx qx => ?_)
  obtain ⟨ex, qx⟩ := qx
  subst Mx
  refine A_aload_n dL_law_284 rfl ?_
  refine A_aload_nS dL_law_285 rfl ?_
  refine A_iload_n dL_law_286 rfl ?_
  refine A_iconst dL_law_287 (by decide) ?_
  refine A_iadd dL_law_288 ⟨by omega, by omega⟩ ?_
  refine A_sld dL_law_289 hX hb hbA (by omega) (by omega) ?_
  refine A_aload_nS dL_law_290 rfl ?_
  refine A_iload_n dL_law_291 rfl ?_
  refine A_iconst dL_law_292 (by decide) ?_
  refine A_iadd dL_law_293 ⟨by omega, by omega⟩ ?_
  refine A_sld dL_law_294 hX hb hbA (by omega) (by omega) ?_
  refine A_vI2 (mj := mX8_desk) dL_law_295 hR (by decide) ok_X8_desk mv_X8_desk ml_RL_37 pM.1 rfl rfl rfl (m_desk (m := 65) pM hy hw) (fun zm Mm gm km qm => ?_)
  obtain ⟨em, qm⟩ := qm
  subst Mm
  refine A_icmp_eq (tgt := 1038) dL_law_298 (by decide) (fun h => kk _ S ⟨hx, hy, hw, hwx⟩) (fun h => absurd (qx.trans qm.symm) h)

set_option maxRecDepth 100000 in
set_option maxHeartbeats 4000000 in
theorem lw_trail {E : EN} {G : CX} {n i : Nat} {xs : Nat → Int32} {M : Mem} {S : GS} (H : lwH E G n xs) (hS : lwS M S) (hi : i + 4 ≤ n) (kk : ∀ (M' : Mem) (S' : GS), lwS M' S' → AW E mL_law G 78 1218 1038 [vS 40, vR 0, vR 65, vI i] [] M') : AW E mL_law G 78 1218 303 [vS 40, vR 0, vR 65, vI i] [] M := by
  obtain ⟨pA, pM, hR, hX, hb, hbA, hL⟩ := H
  obtain ⟨hx, hy, hw, hwx⟩ := hS
  refine A_aload_n dL_law_303 rfl ?_
  refine A_aload_nS dL_law_304 rfl ?_
  refine A_iload_n dL_law_305 rfl ?_
  refine A_iconst dL_law_306 (by decide) ?_
  refine A_iadd dL_law_307 ⟨by omega, by omega⟩ ?_
  refine A_sld dL_law_308 hX hb hbA (by omega) (by omega) ?_
  refine A_aload_nS dL_law_309 rfl ?_
  refine A_iload_n dL_law_310 rfl ?_
  refine A_iconst dL_law_311 (by decide) ?_
  refine A_iadd dL_law_312 ⟨by omega, by omega⟩ ?_
  refine A_sld dL_law_313 hX hb hbA (by omega) (by omega) ?_
  refine A_vI2 (mj := mX7_trail) dL_law_314 hR (by decide) ok_X7_trail mv_X7_trail ml_RL_38 pA.1 rfl rfl rfl (x_trail pA hx hw) (fun zx Mx gx kx qx => ?_)
  obtain ⟨ex, qx⟩ := qx
  subst Mx
  refine A_aload_n dL_law_317 rfl ?_
  refine A_aload_nS dL_law_318 rfl ?_
  refine A_iload_n dL_law_319 rfl ?_
  refine A_iconst dL_law_320 (by decide) ?_
  refine A_iadd dL_law_321 ⟨by omega, by omega⟩ ?_
  refine A_sld dL_law_322 hX hb hbA (by omega) (by omega) ?_
  refine A_aload_nS dL_law_323 rfl ?_
  refine A_iload_n dL_law_324 rfl ?_
  refine A_iconst dL_law_325 (by decide) ?_
  refine A_iadd dL_law_326 ⟨by omega, by omega⟩ ?_
  refine A_sld dL_law_327 hX hb hbA (by omega) (by omega) ?_
  refine A_vI2 (mj := mX8_trail) dL_law_328 hR (by decide) ok_X8_trail mv_X8_trail ml_RL_41 pM.1 rfl rfl rfl (m_trail (m := 65) pM hy hw) (fun zm Mm gm km qm => ?_)
  obtain ⟨em, qm⟩ := qm
  subst Mm
  refine A_icmp_eq (tgt := 1038) dL_law_331 (by decide) (fun h => kk _ S ⟨hx, hy, hw, hwx⟩) (fun h => absurd (qx.trans qm.symm) h)

set_option maxRecDepth 100000 in
set_option maxHeartbeats 4000000 in
theorem lw_file {E : EN} {G : CX} {n i : Nat} {xs : Nat → Int32} {M : Mem} {S : GS} (H : lwH E G n xs) (hS : lwS M S) (hi : i + 4 ≤ n) (kk : ∀ (M' : Mem) (S' : GS), lwS M' S' → AW E mL_law G 78 1218 1038 [vS 40, vR 0, vR 65, vI i] [] M') : AW E mL_law G 78 1218 336 [vS 40, vR 0, vR 65, vI i] [] M := by
  obtain ⟨pA, pM, hR, hX, hb, hbA, hL⟩ := H
  obtain ⟨hx, hy, hw, hwx⟩ := hS
  refine A_aload_n dL_law_336 rfl ?_
  refine A_aload_nS dL_law_337 rfl ?_
  refine A_iload_n dL_law_338 rfl ?_
  refine A_iconst dL_law_339 (by decide) ?_
  refine A_iadd dL_law_340 ⟨by omega, by omega⟩ ?_
  refine A_sld dL_law_341 hX hb hbA (by omega) (by omega) ?_
  refine A_aload_nS dL_law_342 rfl ?_
  refine A_iload_n dL_law_343 rfl ?_
  refine A_iconst dL_law_344 (by decide) ?_
  refine A_iadd dL_law_345 ⟨by omega, by omega⟩ ?_
  refine A_sld dL_law_346 hX hb hbA (by omega) (by omega) ?_
  refine A_vI2 (mj := mX7_file) dL_law_347 hR (by decide) ok_X7_file mv_X7_file ml_RL_42 pA.1 rfl rfl rfl (x_file pA hx hw) (fun zx Mx gx kx qx => ?_)
  obtain ⟨ex, qx⟩ := qx
  subst Mx
  refine A_aload_n dL_law_350 rfl ?_
  refine A_aload_nS dL_law_351 rfl ?_
  refine A_iload_n dL_law_352 rfl ?_
  refine A_iconst dL_law_353 (by decide) ?_
  refine A_iadd dL_law_354 ⟨by omega, by omega⟩ ?_
  refine A_sld dL_law_355 hX hb hbA (by omega) (by omega) ?_
  refine A_aload_nS dL_law_356 rfl ?_
  refine A_iload_n dL_law_357 rfl ?_
  refine A_iconst dL_law_358 (by decide) ?_
  refine A_iadd dL_law_359 ⟨by omega, by omega⟩ ?_
  refine A_sld dL_law_360 hX hb hbA (by omega) (by omega) ?_
  refine A_vI2 (mj := mX8_file) dL_law_361 hR (by decide) ok_X8_file mv_X8_file ml_RL_45 pM.1 rfl rfl rfl (m_file (m := 65) pM hy hw) (fun zm Mm gm km qm => ?_)
  obtain ⟨em, qm⟩ := qm
  subst Mm
  refine A_icmp_eq (tgt := 1038) dL_law_364 (by decide) (fun h => kk _ S ⟨hx, hy, hw, hwx⟩) (fun h => absurd (qx.trans qm.symm) h)

set_option maxRecDepth 100000 in
set_option maxHeartbeats 4000000 in
theorem lw_as {E : EN} {G : CX} {n i : Nat} {xs : Nat → Int32} {M : Mem} {S : GS} (H : lwH E G n xs) (hS : lwS M S) (hi : i + 4 ≤ n) (kk : ∀ (M' : Mem) (S' : GS), lwS M' S' → AW E mL_law G 78 1218 1038 [vS 40, vR 0, vR 65, vI i] [] M') : AW E mL_law G 78 1218 369 [vS 40, vR 0, vR 65, vI i] [] M := by
  obtain ⟨pA, pM, hR, hX, hb, hbA, hL⟩ := H
  obtain ⟨hx, hy, hw, hwx⟩ := hS
  refine A_aload_n dL_law_369 rfl ?_
  refine A_aload_nS dL_law_370 rfl ?_
  refine A_iload_n dL_law_371 rfl ?_
  refine A_iconst dL_law_372 (by decide) ?_
  refine A_iadd dL_law_373 ⟨by omega, by omega⟩ ?_
  refine A_sld dL_law_374 hX hb hbA (by omega) (by omega) ?_
  refine A_aload_nS dL_law_375 rfl ?_
  refine A_iload_n dL_law_376 rfl ?_
  refine A_iconst dL_law_377 (by decide) ?_
  refine A_iadd dL_law_378 ⟨by omega, by omega⟩ ?_
  refine A_sld dL_law_379 hX hb hbA (by omega) (by omega) ?_
  refine A_vI2 (mj := mX7_as) dL_law_380 hR (by decide) ok_X7_as mv_X7_as ml_RL_46 pA.1 rfl rfl rfl (x_as pA hx hw) (fun zx Mx gx kx qx => ?_)
  obtain ⟨ex, qx⟩ := qx
  subst Mx
  refine A_aload_n dL_law_383 rfl ?_
  refine A_aload_nS dL_law_384 rfl ?_
  refine A_iload_n dL_law_385 rfl ?_
  refine A_iconst dL_law_386 (by decide) ?_
  refine A_iadd dL_law_387 ⟨by omega, by omega⟩ ?_
  refine A_sld dL_law_388 hX hb hbA (by omega) (by omega) ?_
  refine A_aload_nS dL_law_389 rfl ?_
  refine A_iload_n dL_law_390 rfl ?_
  refine A_iconst dL_law_391 (by decide) ?_
  refine A_iadd dL_law_392 ⟨by omega, by omega⟩ ?_
  refine A_sld dL_law_393 hX hb hbA (by omega) (by omega) ?_
  refine A_vI2 (mj := mX8_as) dL_law_394 hR (by decide) ok_X8_as mv_X8_as ml_RL_49 pM.1 rfl rfl rfl (m_as (m := 65) pM hy hw) (fun zm Mm gm km qm => ?_)
  obtain ⟨em, qm⟩ := qm
  subst Mm
  refine A_icmp_eq (tgt := 1038) dL_law_397 (by decide) (fun h => kk _ S ⟨hx, hy, hw, hwx⟩) (fun h => absurd (qx.trans qm.symm) h)

set_option maxRecDepth 100000 in
set_option maxHeartbeats 4000000 in
theorem lw_go {E : EN} {G : CX} {n i : Nat} {xs : Nat → Int32} {M : Mem} {S : GS} (H : lwH E G n xs) (hS : lwS M S) (hi : i + 4 ≤ n) (kk : ∀ (M' : Mem) (S' : GS), lwS M' S' → AW E mL_law G 78 1218 1038 [vS 40, vR 0, vR 65, vI i] [] M') : AW E mL_law G 78 1218 402 [vS 40, vR 0, vR 65, vI i] [] M := by
  obtain ⟨pA, pM, hR, hX, hb, hbA, hL⟩ := H
  obtain ⟨hx, hy, hw, hwx⟩ := hS
  refine A_aload_n dL_law_402 rfl ?_
  refine A_aload_nS dL_law_403 rfl ?_
  refine A_iload_n dL_law_404 rfl ?_
  refine A_iconst dL_law_405 (by decide) ?_
  refine A_iadd dL_law_406 ⟨by omega, by omega⟩ ?_
  refine A_sld dL_law_407 hX hb hbA (by omega) (by omega) ?_
  refine A_vI1 (mj := mX7_go) dL_law_408 hR (by decide) ok_X7_go mv_X7_go ml_RL_50 pA.1 rfl rfl rfl (x_go pA hx hw) (fun zx Mx gx kx qx => ?_)
  obtain ⟨a1, a2, a3⟩ := qx
  have hy1 := rY_65 hy hw.1 a2
  refine A_aload_n dL_law_411 rfl ?_
  refine A_aload_nS dL_law_412 rfl ?_
  refine A_iload_n dL_law_413 rfl ?_
  refine A_iconst dL_law_414 (by decide) ?_
  refine A_iadd dL_law_415 ⟨by omega, by omega⟩ ?_
  refine A_sld dL_law_416 hX hb hbA (by omega) (by omega) ?_
  refine A_vI1 (mj := mX8_go) dL_law_417 hR (by decide) ok_X8_go mv_X8_go ml_RL_54 pM.1 rfl rfl rfl (m_go (m := 65) pM hy1 hw) (fun zm Mm gm km qm => ?_)
  obtain ⟨b1, b2, b3⟩ := qm
  have hx1 := rX_65 a1 b2
  refine A_icmp_eq (tgt := 1038) dL_law_420 (by decide) (fun h => kk _ _ ⟨hx1, b1, (w_go _ hw), (wx_go _ hwx)⟩) (fun h => absurd (a3.trans b3.symm) h)

set_option maxRecDepth 100000 in
set_option maxHeartbeats 4000000 in
theorem lw_next {E : EN} {G : CX} {n i : Nat} {xs : Nat → Int32} {M : Mem} {S : GS} (H : lwH E G n xs) (hS : lwS M S) (hi : i + 4 ≤ n) (kk : ∀ (M' : Mem) (S' : GS), lwS M' S' → AW E mL_law G 78 1218 1038 [vS 40, vR 0, vR 65, vI i] [] M') : AW E mL_law G 78 1218 425 [vS 40, vR 0, vR 65, vI i] [] M := by
  obtain ⟨pA, pM, hR, hX, hb, hbA, hL⟩ := H
  obtain ⟨hx, hy, hw, hwx⟩ := hS
  refine A_aload_n dL_law_425 rfl ?_
  refine A_aload_nS dL_law_426 rfl ?_
  refine A_iload_n dL_law_427 rfl ?_
  refine A_iconst dL_law_428 (by decide) ?_
  refine A_iadd dL_law_429 ⟨by omega, by omega⟩ ?_
  refine A_sld dL_law_430 hX hb hbA (by omega) (by omega) ?_
  refine A_vI1 (mj := mX7_next) dL_law_431 hR (by decide) ok_X7_next mv_X7_next ml_RL_55 pA.1 rfl rfl rfl (x_next pA hx hw) (fun zx Mx gx kx qx => ?_)
  obtain ⟨a1, a2, a3⟩ := qx
  have hy1 := rY_65 hy hw.1 a2
  refine A_aload_n dL_law_434 rfl ?_
  refine A_aload_nS dL_law_435 rfl ?_
  refine A_iload_n dL_law_436 rfl ?_
  refine A_iconst dL_law_437 (by decide) ?_
  refine A_iadd dL_law_438 ⟨by omega, by omega⟩ ?_
  refine A_sld dL_law_439 hX hb hbA (by omega) (by omega) ?_
  refine A_vI1 (mj := mX8_next) dL_law_440 hR (by decide) ok_X8_next mv_X8_next ml_RL_58 pM.1 rfl rfl rfl (m_next (m := 65) pM hy1 hw) (fun zm Mm gm km qm => ?_)
  obtain ⟨b1, b2, b3⟩ := qm
  have hx1 := rX_65 a1 b2
  refine A_icmp_eq (tgt := 1038) dL_law_443 (by decide) (fun h => kk _ _ ⟨hx1, b1, hw, hwx⟩) (fun h => absurd (a3.trans b3.symm) h)

set_option maxRecDepth 100000 in
set_option maxHeartbeats 4000000 in
theorem lw_spill {E : EN} {G : CX} {n i : Nat} {xs : Nat → Int32} {M : Mem} {S : GS} (H : lwH E G n xs) (hS : lwS M S) (hi : i + 4 ≤ n) (kk : ∀ (M' : Mem) (S' : GS), lwS M' S' → AW E mL_law G 78 1218 1038 [vS 40, vR 0, vR 65, vI i] [] M') : AW E mL_law G 78 1218 448 [vS 40, vR 0, vR 65, vI i] [] M := by
  obtain ⟨pA, pM, hR, hX, hb, hbA, hL⟩ := H
  obtain ⟨hx, hy, hw, hwx⟩ := hS
  refine A_aload_n dL_law_448 rfl ?_
  refine A_aload_nS dL_law_449 rfl ?_
  refine A_iload_n dL_law_450 rfl ?_
  refine A_iconst dL_law_451 (by decide) ?_
  refine A_iadd dL_law_452 ⟨by omega, by omega⟩ ?_
  refine A_sld dL_law_453 hX hb hbA (by omega) (by omega) ?_
  refine A_aload_nS dL_law_454 rfl ?_
  refine A_iload_n dL_law_455 rfl ?_
  refine A_iconst dL_law_456 (by decide) ?_
  refine A_iadd dL_law_457 ⟨by omega, by omega⟩ ?_
  refine A_sld dL_law_458 hX hb hbA (by omega) (by omega) ?_
  refine A_vI2 (mj := mX7_spill) dL_law_459 hR (by decide) ok_X7_spill mv_X7_spill ml_RL_59 pA.1 rfl rfl rfl (x_spill pA hx hw) (fun zx Mx gx kx qx => ?_)
  obtain ⟨a1, a2, a3⟩ := qx
  have hy1 := rY_65 hy hw.1 a2
  refine A_aload_n dL_law_462 rfl ?_
  refine A_aload_nS dL_law_463 rfl ?_
  refine A_iload_n dL_law_464 rfl ?_
  refine A_iconst dL_law_465 (by decide) ?_
  refine A_iadd dL_law_466 ⟨by omega, by omega⟩ ?_
  refine A_sld dL_law_467 hX hb hbA (by omega) (by omega) ?_
  refine A_aload_nS dL_law_468 rfl ?_
  refine A_iload_n dL_law_469 rfl ?_
  refine A_iconst dL_law_470 (by decide) ?_
  refine A_iadd dL_law_471 ⟨by omega, by omega⟩ ?_
  refine A_sld dL_law_472 hX hb hbA (by omega) (by omega) ?_
  refine A_vI2 (mj := mX8_spill) dL_law_473 hR (by decide) ok_X8_spill mv_X8_spill ml_RL_62 pM.1 rfl rfl rfl (m_spill (m := 65) pM hy1 hw) (fun zm Mm gm km qm => ?_)
  obtain ⟨b1, b2, b3⟩ := qm
  have hx1 := rX_65 a1 b2
  refine A_icmp_eq (tgt := 1038) dL_law_476 (by decide) (fun h => kk _ _ ⟨hx1, b1, (w_spill _ _ hw), (wx_spill _ _ hwx)⟩) (fun h => absurd (a3.trans b3.symm) h)

set_option maxRecDepth 100000 in
set_option maxHeartbeats 4000000 in
theorem lw_stamp {E : EN} {G : CX} {n i : Nat} {xs : Nat → Int32} {M : Mem} {S : GS} (H : lwH E G n xs) (hS : lwS M S) (hi : i + 4 ≤ n) (kk : ∀ (M' : Mem) (S' : GS), lwS M' S' → AW E mL_law G 78 1218 1038 [vS 40, vR 0, vR 65, vI i] [] M') : AW E mL_law G 78 1218 481 [vS 40, vR 0, vR 65, vI i] [] M := by
  obtain ⟨pA, pM, hR, hX, hb, hbA, hL⟩ := H
  obtain ⟨hx, hy, hw, hwx⟩ := hS
  refine A_aload_n dL_law_481 rfl ?_
  refine A_aload_nS dL_law_482 rfl ?_
  refine A_iload_n dL_law_483 rfl ?_
  refine A_iconst dL_law_484 (by decide) ?_
  refine A_iadd dL_law_485 ⟨by omega, by omega⟩ ?_
  refine A_sld dL_law_486 hX hb hbA (by omega) (by omega) ?_
  refine A_aload_nS dL_law_487 rfl ?_
  refine A_iload_n dL_law_488 rfl ?_
  refine A_iconst dL_law_489 (by decide) ?_
  refine A_iadd dL_law_490 ⟨by omega, by omega⟩ ?_
  refine A_sld dL_law_491 hX hb hbA (by omega) (by omega) ?_
  refine A_vI2 (mj := mX7_stamp) dL_law_492 hR (by decide) ok_X7_stamp mv_X7_stamp ml_RL_63 pA.1 rfl rfl rfl (x_stamp pA hx hw) (fun zx Mx gx kx qx => ?_)
  obtain ⟨a1, a2, a3⟩ := qx
  have hy1 := rY_65 hy hw.1 a2
  refine A_aload_n dL_law_495 rfl ?_
  refine A_aload_nS dL_law_496 rfl ?_
  refine A_iload_n dL_law_497 rfl ?_
  refine A_iconst dL_law_498 (by decide) ?_
  refine A_iadd dL_law_499 ⟨by omega, by omega⟩ ?_
  refine A_sld dL_law_500 hX hb hbA (by omega) (by omega) ?_
  refine A_aload_nS dL_law_501 rfl ?_
  refine A_iload_n dL_law_502 rfl ?_
  refine A_iconst dL_law_503 (by decide) ?_
  refine A_iadd dL_law_504 ⟨by omega, by omega⟩ ?_
  refine A_sld dL_law_505 hX hb hbA (by omega) (by omega) ?_
  refine A_vI2 (mj := mX8_stamp) dL_law_506 hR (by decide) ok_X8_stamp mv_X8_stamp ml_RL_66 pM.1 rfl rfl rfl (m_stamp (m := 65) pM hy1 hw) (fun zm Mm gm km qm => ?_)
  obtain ⟨b1, b2, b3⟩ := qm
  have hx1 := rX_65 a1 b2
  refine A_icmp_eq (tgt := 1038) dL_law_509 (by decide) (fun h => kk _ _ ⟨hx1, b1, (w_stamp _ _ hw), (wx_stamp _ _ hwx)⟩) (fun h => absurd (a3.trans b3.symm) h)

set_option maxRecDepth 100000 in
set_option maxHeartbeats 4000000 in
theorem lw_rain {E : EN} {G : CX} {n i : Nat} {xs : Nat → Int32} {M : Mem} {S : GS} (H : lwH E G n xs) (hS : lwS M S) (hi : i + 4 ≤ n) (kk : ∀ (M' : Mem) (S' : GS), lwS M' S' → AW E mL_law G 78 1218 1038 [vS 40, vR 0, vR 65, vI i] [] M') : AW E mL_law G 78 1218 514 [vS 40, vR 0, vR 65, vI i] [] M := by
  obtain ⟨pA, pM, hR, hX, hb, hbA, hL⟩ := H
  obtain ⟨hx, hy, hw, hwx⟩ := hS
  refine A_aload_n dL_law_514 rfl ?_
  refine A_vI0 (mj := mX7_rain) dL_law_515 hR (by decide) ok_X7_rain mv_X7_rain ml_RL_67 pA.1 rfl rfl rfl (x_rain pA hx hw) (fun zx Mx gx kx qx => ?_)
  obtain ⟨a1, a2, a3⟩ := qx
  have hy1 := rY_65 hy hw.1 a2
  refine A_aload_n dL_law_518 rfl ?_
  refine A_vI0 (mj := mX8_rain) dL_law_519 hR (by decide) ok_X8_rain mv_X8_rain ml_RL_70 pM.1 rfl rfl rfl (m_rain (m := 65) pM hy1 hw) (fun zm Mm gm km qm => ?_)
  obtain ⟨b1, b2, b3⟩ := qm
  have hx1 := rX_65 a1 b2
  refine A_icmp_eq (tgt := 1038) dL_law_522 (by decide) (fun h => kk _ _ ⟨hx1, b1, (w_rain hw), hwx⟩) (fun h => absurd (a3.trans b3.symm) h)

set_option maxRecDepth 100000 in
set_option maxHeartbeats 4000000 in
theorem lw_sit {E : EN} {G : CX} {n i : Nat} {xs : Nat → Int32} {M : Mem} {S : GS} (H : lwH E G n xs) (hS : lwS M S) (hi : i + 4 ≤ n) (kk : ∀ (M' : Mem) (S' : GS), lwS M' S' → AW E mL_law G 78 1218 1038 [vS 40, vR 0, vR 65, vI i] [] M') : AW E mL_law G 78 1218 527 [vS 40, vR 0, vR 65, vI i] [] M := by
  obtain ⟨pA, pM, hR, hX, hb, hbA, hL⟩ := H
  obtain ⟨hx, hy, hw, hwx⟩ := hS
  refine A_aload_n dL_law_527 rfl ?_
  refine A_aload_nS dL_law_528 rfl ?_
  refine A_iload_n dL_law_529 rfl ?_
  refine A_iconst dL_law_530 (by decide) ?_
  refine A_iadd dL_law_531 ⟨by omega, by omega⟩ ?_
  refine A_sld dL_law_532 hX hb hbA (by omega) (by omega) ?_
  refine A_vI1 (mj := mX7_sit) dL_law_533 hR (by decide) ok_X7_sit mv_X7_sit ml_RL_71 pA.1 rfl rfl rfl (x_sit pA hx hw) (fun zx Mx gx kx qx => ?_)
  obtain ⟨a1, a2, a3⟩ := qx
  have hy1 := rY_65 hy hw.1 a2
  refine A_aload_n dL_law_536 rfl ?_
  refine A_aload_nS dL_law_537 rfl ?_
  refine A_iload_n dL_law_538 rfl ?_
  refine A_iconst dL_law_539 (by decide) ?_
  refine A_iadd dL_law_540 ⟨by omega, by omega⟩ ?_
  refine A_sld dL_law_541 hX hb hbA (by omega) (by omega) ?_
  refine A_vI1 (mj := mX8_sit) dL_law_542 hR (by decide) ok_X8_sit mv_X8_sit ml_RL_74 pM.1 rfl rfl rfl (m_sit (m := 65) pM hy1 hw) (fun zm Mm gm km qm => ?_)
  obtain ⟨b1, b2, b3⟩ := qm
  have hx1 := rX_65 a1 b2
  refine A_icmp_eq (tgt := 1038) dL_law_545 (by decide) (fun h => kk _ _ ⟨hx1, b1, (w_sit _ hw), (wx_sit _ hwx)⟩) (fun h => absurd (a3.trans b3.symm) h)

set_option maxRecDepth 100000 in
set_option maxHeartbeats 4000000 in
theorem lw_keep {E : EN} {G : CX} {n i : Nat} {xs : Nat → Int32} {M : Mem} {S : GS} (H : lwH E G n xs) (hS : lwS M S) (hi : i + 4 ≤ n) (kk : ∀ (M' : Mem) (S' : GS), lwS M' S' → AW E mL_law G 78 1218 1038 [vS 40, vR 0, vR 65, vI i] [] M') : AW E mL_law G 78 1218 550 [vS 40, vR 0, vR 65, vI i] [] M := by
  obtain ⟨pA, pM, hR, hX, hb, hbA, hL⟩ := H
  obtain ⟨hx, hy, hw, hwx⟩ := hS
  refine A_aload_n dL_law_550 rfl ?_
  refine A_aload_nS dL_law_551 rfl ?_
  refine A_iload_n dL_law_552 rfl ?_
  refine A_iconst dL_law_553 (by decide) ?_
  refine A_iadd dL_law_554 ⟨by omega, by omega⟩ ?_
  refine A_sld dL_law_555 hX hb hbA (by omega) (by omega) ?_
  refine A_vI1 (mj := mX7_keep) dL_law_556 hR (by decide) ok_X7_keep mv_X7_keep ml_RL_75 pA.1 rfl rfl rfl (x_keep pA hx hw) (fun zx Mx gx kx qx => ?_)
  obtain ⟨a1, a2, a3⟩ := qx
  have hy1 := rY_65 hy hw.1 a2
  refine A_aload_n dL_law_559 rfl ?_
  refine A_aload_nS dL_law_560 rfl ?_
  refine A_iload_n dL_law_561 rfl ?_
  refine A_iconst dL_law_562 (by decide) ?_
  refine A_iadd dL_law_563 ⟨by omega, by omega⟩ ?_
  refine A_sld dL_law_564 hX hb hbA (by omega) (by omega) ?_
  refine A_vI1 (mj := mX8_keep) dL_law_565 hR (by decide) ok_X8_keep mv_X8_keep ml_RL_78 pM.1 rfl rfl rfl (m_keep (m := 65) pM hy1 hw) (fun zm Mm gm km qm => ?_)
  obtain ⟨b1, b2, b3⟩ := qm
  have hx1 := rX_65 a1 b2
  refine A_icmp_eq (tgt := 1038) dL_law_568 (by decide) (fun h => kk _ _ ⟨hx1, b1, (w_keep _ hw), (wx_keep _ hwx)⟩) (fun h => absurd (a3.trans b3.symm) h)
