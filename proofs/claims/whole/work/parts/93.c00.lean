section LAW
variable {C : jC} {a m : Nat → Nat} {b L h j : Nat} {xs : Nat → Int32} {o : Nat → Int64} {v : Nat → UInt64} {M : pM} {kc ks : Nat} {Q : State → Prop}
theorem law_c00 (E : jE C cL_law 8 wsL_law RL ret room_1) (hlt : (jl C).stackTraces = false) (hx : xW (jA C) (js C) (js C).heap) (hn3 : xN3 (js C)) (hs : lS C b L xs) (hX : wX (jG C) a) (hM : wM (jG C) m) (A : sAd a m) (B : sAp a m) (h0 : simP zZ a m M M) (hj : 5 * j + 5 ≤ L) (hc : kc + 5 ≤ 639400 ∧ ks + 30 ≤ 7177904)
    (nx : ∀ (M2 : pM) (o2 : Nat → Int64) (v2 : Nat → UInt64), simP zZ a m M2 M2 → jW C 8 1243 (lvB a m b h j) [] (lX (jcy C) h o2 v2) M2 (kc + 5) (ks + 30) Q) : jW C 8 140 (lvB a m b h j) [] (lX (jcy C) h o v) M kc ks Q := by
  have hm1 := hM.1
  have hm2 := hM.2.1
  have hx1 := hX.1.1
  have hx2 := hX.1.2.1
  have hN : simP zZ a m M (oM (xFitO a M (xs (5 * j + 1)) (xs (5 * j + 2)) (xs (5 * j + 3)) (FP.fmul (FP.i2f (xs (5 * j + 4))) 1040187392)) M) := simP.x B h0 (frx_fit (xs (5 * j + 1)) (xs (5 * j + 2)) (xs (5 * j + 3)) (FP.fmul (FP.i2f (xs (5 * j + 4))) 1040187392))
  have hS := S_fit A sZ_zZ zT_fit hN (xs (5 * j + 1)) (xs (5 * j + 2)) (xs (5 * j + 3)) (FP.fmul (FP.i2f (xs (5 * j + 4))) 1040187392)
  have h2 := simP.mm B hS.2 (frm_fit _ _ _ _)
  refine j_aload_n E dL_law_140 rfl rfl ?_
  refine j_aload_n E dL_law_141 rfl rfl ?_
  refine j_iload E dL_law_142 rfl ?_
  refine j_iconst E dL_law_144 (v := 1) (by decide) ?_
  refine j_iadd E dL_law_145 ?_
  refine j_sld E hs.1 hs.2.1 hs.2.2.1 dL_law_146 (j := 5 * j + 1) (nI_add (5 * j) 1) (by omega) hs.2.2.2 ?_
  refine j_aload_n E dL_law_147 rfl rfl ?_
  refine j_iload E dL_law_148 rfl ?_
  refine j_iconst E dL_law_150 (v := 2) (by decide) ?_
  refine j_iadd E dL_law_151 ?_
  refine j_sld E hs.1 hs.2.1 hs.2.2.1 dL_law_152 (j := 5 * j + 2) (nI_add (5 * j) 2) (by omega) hs.2.2.2 ?_
  refine j_aload_n E dL_law_153 rfl rfl ?_
  refine j_iload E dL_law_154 rfl ?_
  refine j_iconst E dL_law_156 (v := 3) (by decide) ?_
  refine j_iadd E dL_law_157 ?_
  refine j_sld E hs.1 hs.2.1 hs.2.2.1 dL_law_158 (j := 5 * j + 3) (nI_add (5 * j) 3) (by omega) hs.2.2.2 ?_
  refine j_aload_n E dL_law_159 rfl rfl ?_
  refine j_iload E dL_law_160 rfl ?_
  refine j_iconst E dL_law_162 (v := 4) (by decide) ?_
  refine j_iadd E dL_law_163 ?_
  refine j_sld E hs.1 hs.2.1 hs.2.2.1 dL_law_164 (j := 5 * j + 4) (nI_add (5 * j) 4) (by omega) hs.2.2.2 ?_
  refine j_i2f E dL_law_165 ?_
  refine j_ldcf E (v := 1040187392) (by decide +kernel) dL_law_166 ?_
  refine j_fmul E dL_law_168 (i8_no _) ?_
  refine j_hS (n := 5) E hx hn3 (k_L_fit hlt hX) rfl dL_law_169 gL_law_L_fit rfl (by decide +kernel) ⟨rfl, rfl, by decide, by decide⟩ ⟨by show kc + 5 ≤ 639400; omega, by show ks + 30 ≤ 7177904; omega⟩ rfl rfl (Nat.le_of_ble_eq_true rfl) ?_
  refine j_istore E dL_law_172 (by decide) ?_
  refine j_aload_n E dL_law_174 rfl rfl ?_
  refine j_aload_n E dL_law_175 rfl rfl ?_
  refine j_iload E dL_law_176 rfl ?_
  refine j_iconst E dL_law_178 (v := 1) (by decide) ?_
  refine j_iadd E dL_law_179 ?_
  refine j_sld E hs.1 hs.2.1 hs.2.2.1 dL_law_180 (j := 5 * j + 1) (nI_add (5 * j) 1) (by omega) hs.2.2.2 ?_
  refine j_aload_n E dL_law_181 rfl rfl ?_
  refine j_iload E dL_law_182 rfl ?_
  refine j_iconst E dL_law_184 (v := 2) (by decide) ?_
  refine j_iadd E dL_law_185 ?_
  refine j_sld E hs.1 hs.2.1 hs.2.2.1 dL_law_186 (j := 5 * j + 2) (nI_add (5 * j) 2) (by omega) hs.2.2.2 ?_
  refine j_aload_n E dL_law_187 rfl rfl ?_
  refine j_iload E dL_law_188 rfl ?_
  refine j_iconst E dL_law_190 (v := 3) (by decide) ?_
  refine j_iadd E dL_law_191 ?_
  refine j_sld E hs.1 hs.2.1 hs.2.2.1 dL_law_192 (j := 5 * j + 3) (nI_add (5 * j) 3) (by omega) hs.2.2.2 ?_
  refine j_aload_n E dL_law_193 rfl rfl ?_
  refine j_iload E dL_law_194 rfl ?_
  refine j_iconst E dL_law_196 (v := 4) (by decide) ?_
  refine j_iadd E dL_law_197 ?_
  refine j_sld E hs.1 hs.2.1 hs.2.2.1 dL_law_198 (j := 5 * j + 4) (nI_add (5 * j) 4) (by omega) hs.2.2.2 ?_
  refine j_i2f E dL_law_199 ?_
  refine j_ldcf E (v := 1040187392) (by decide +kernel) dL_law_200 ?_
  refine j_fmul E dL_law_202 (i8_no _) ?_
  refine j_callV0 (ci := 7) (n := 4) E (k_X7_fit hM) dL_law_203 gL_law_X7_fit rfl (by decide +kernel) ⟨rfl, rfl, by decide, by decide⟩ ⟨by show kc + 5 ≤ 639400; omega, by show ks + 30 ≤ 7177904; omega⟩ hm1 hm2 rfl rfl rfl (Nat.le_of_ble_eq_true rfl) rfl ?_
  refine j_aload_n E dL_law_206 rfl rfl ?_
  refine j_callV1 (ci := 7) (n := 0) E (k_X7_thrown hM) dL_law_207 gL_law_X7_thrown rfl (by decide +kernel) ⟨rfl, rfl, by decide, by decide⟩ ⟨by show kc + 5 ≤ 639400; omega, by show ks + 30 ≤ 7177904; omega⟩ hm1 hm2 rfl rfl rfl (Nat.le_of_ble_eq_true rfl) rfl ?_
  refine j_iload E dL_law_210 rfl ?_
  refine j_icmp_eq E dL_law_212 (tgt := 217) (by decide) (fun _ => ?_) (fun q => absurd hS.1 q)
  refine j_goto E dL_law_217 (tgt := 1243) (by decide) ?_
  refine j_lv [0, 1, 2, 3, 4, 5] rfl ?_
  exact j_widen (by omega) (by omega) (nx _ _ _ h2)
theorem law_c01 (E : jE C cL_law 8 wsL_law RL ret room_1) (hlt : (jl C).stackTraces = false) (hx : xW (jA C) (js C) (js C).heap) (hn3 : xN3 (js C)) (hs : lS C b L xs) (hX : wX (jG C) a) (hM : wM (jG C) m) (A : sAd a m) (B : sAp a m) (h0 : simP zZ a m M M) (hj : 5 * j + 5 ≤ L) (hc : kc + 5 ≤ 639400 ∧ ks + 30 ≤ 7177904)
    (nx : ∀ (M2 : pM) (o2 : Nat → Int64) (v2 : Nat → UInt64), simP zZ a m M2 M2 → jW C 8 1243 (lvB a m b h j) [] (lX (jcy C) h o2 v2) M2 (kc + 5) (ks + 30) Q) : jW C 8 220 (lvB a m b h j) [] (lX (jcy C) h o v) M kc ks Q := by
  have hm1 := hM.1
  have hm2 := hM.2.1
  have hx1 := hX.1.1
  have hx2 := hX.1.2.1
  have hN : simP zZ a m M (oM (xNeedO a M (xs (5 * j + 1)) (xs (5 * j + 2))) M) := simP.x B h0 (frx_need (xs (5 * j + 1)) (xs (5 * j + 2)))
  have hS := S_need A hN (xs (5 * j + 1)) (xs (5 * j + 2))
  have h2 := simP.mm B hS.2 (frm_need _ _)
  refine j_aload_n E dL_law_220 rfl rfl ?_
  refine j_aload_n E dL_law_221 rfl rfl ?_
  refine j_iload E dL_law_222 rfl ?_
  refine j_iconst E dL_law_224 (v := 1) (by decide) ?_
  refine j_iadd E dL_law_225 ?_
  refine j_sld E hs.1 hs.2.1 hs.2.2.1 dL_law_226 (j := 5 * j + 1) (nI_add (5 * j) 1) (by omega) hs.2.2.2 ?_
  refine j_aload_n E dL_law_227 rfl rfl ?_
  refine j_iload E dL_law_228 rfl ?_
  refine j_iconst E dL_law_230 (v := 2) (by decide) ?_
  refine j_iadd E dL_law_231 ?_
  refine j_sld E hs.1 hs.2.1 hs.2.2.1 dL_law_232 (j := 5 * j + 2) (nI_add (5 * j) 2) (by omega) hs.2.2.2 ?_
  refine j_hS (n := 3) E hx hn3 (k_L_need hlt hX) rfl dL_law_233 gL_law_L_need rfl (by decide +kernel) ⟨rfl, rfl, by decide, by decide⟩ ⟨by show kc + 3 ≤ 639400; omega, by show ks + 18 ≤ 7177904; omega⟩ rfl rfl (Nat.le_of_ble_eq_true rfl) ?_
  refine j_istore E dL_law_236 (by decide) ?_
  refine j_aload_n E dL_law_238 rfl rfl ?_
  refine j_aload_n E dL_law_239 rfl rfl ?_
  refine j_iload E dL_law_240 rfl ?_
  refine j_iconst E dL_law_242 (v := 1) (by decide) ?_
  refine j_iadd E dL_law_243 ?_
  refine j_sld E hs.1 hs.2.1 hs.2.2.1 dL_law_244 (j := 5 * j + 1) (nI_add (5 * j) 1) (by omega) hs.2.2.2 ?_
  refine j_aload_n E dL_law_245 rfl rfl ?_
  refine j_iload E dL_law_246 rfl ?_
  refine j_iconst E dL_law_248 (v := 2) (by decide) ?_
  refine j_iadd E dL_law_249 ?_
  refine j_sld E hs.1 hs.2.1 hs.2.2.1 dL_law_250 (j := 5 * j + 2) (nI_add (5 * j) 2) (by omega) hs.2.2.2 ?_
  refine j_callV0 (ci := 7) (n := 2) E (k_X7_need hM) dL_law_251 gL_law_X7_need rfl (by decide +kernel) ⟨rfl, rfl, by decide, by decide⟩ ⟨by show kc + 3 ≤ 639400; omega, by show ks + 18 ≤ 7177904; omega⟩ hm1 hm2 rfl rfl rfl (Nat.le_of_ble_eq_true rfl) rfl ?_
  refine j_aload_n E dL_law_254 rfl rfl ?_
  refine j_callV1 (ci := 7) (n := 0) E (k_X7_thrown hM) dL_law_255 gL_law_X7_thrown rfl (by decide +kernel) ⟨rfl, rfl, by decide, by decide⟩ ⟨by show kc + 3 ≤ 639400; omega, by show ks + 18 ≤ 7177904; omega⟩ hm1 hm2 rfl rfl rfl (Nat.le_of_ble_eq_true rfl) rfl ?_
  refine j_iload E dL_law_258 rfl ?_
  refine j_icmp_eq E dL_law_260 (tgt := 265) (by decide) (fun _ => ?_) (fun q => absurd hS.1 q)
  refine j_goto E dL_law_265 (tgt := 1243) (by decide) ?_
  refine j_lv [0, 1, 2, 3, 4, 5] rfl ?_
  exact j_widen (by omega) (by omega) (nx _ _ _ h2)
theorem law_c02 (E : jE C cL_law 8 wsL_law RL ret room_1) (hlt : (jl C).stackTraces = false) (hx : xW (jA C) (js C) (js C).heap) (hn3 : xN3 (js C)) (hs : lS C b L xs) (hX : wX (jG C) a) (hM : wM (jG C) m) (A : sAd a m) (B : sAp a m) (h0 : simP zZ a m M M) (hj : 5 * j + 5 ≤ L) (hc : kc + 5 ≤ 639400 ∧ ks + 30 ≤ 7177904)
    (nx : ∀ (M2 : pM) (o2 : Nat → Int64) (v2 : Nat → UInt64), simP zZ a m M2 M2 → jW C 8 1243 (lvB a m b h j) [] (lX (jcy C) h o2 v2) M2 (kc + 5) (ks + 30) Q) : jW C 8 268 (lvB a m b h j) [] (lX (jcy C) h o v) M kc ks Q := by
  have hm1 := hM.1
  have hm2 := hM.2.1
  have hx1 := hX.1.1
  have hx2 := hX.1.2.1
  have hN : simP zZ a m M (oM (xWireO a M (xs (5 * j + 1)) (xs (5 * j + 2))) M) := simP.x B h0 (frx_wire (xs (5 * j + 1)) (xs (5 * j + 2)))
  have hS := S_wire A hN (xs (5 * j + 1)) (xs (5 * j + 2))
  have h2 := simP.mm B hS.2 (frm_wire _ _)
  refine j_aload_n E dL_law_268 rfl rfl ?_
  refine j_aload_n E dL_law_269 rfl rfl ?_
  refine j_iload E dL_law_270 rfl ?_
  refine j_iconst E dL_law_272 (v := 1) (by decide) ?_
  refine j_iadd E dL_law_273 ?_
  refine j_sld E hs.1 hs.2.1 hs.2.2.1 dL_law_274 (j := 5 * j + 1) (nI_add (5 * j) 1) (by omega) hs.2.2.2 ?_
  refine j_aload_n E dL_law_275 rfl rfl ?_
  refine j_iload E dL_law_276 rfl ?_
  refine j_iconst E dL_law_278 (v := 2) (by decide) ?_
  refine j_iadd E dL_law_279 ?_
  refine j_sld E hs.1 hs.2.1 hs.2.2.1 dL_law_280 (j := 5 * j + 2) (nI_add (5 * j) 2) (by omega) hs.2.2.2 ?_
  refine j_hS (n := 3) E hx hn3 (k_L_wire hlt hX) rfl dL_law_281 gL_law_L_wire rfl (by decide +kernel) ⟨rfl, rfl, by decide, by decide⟩ ⟨by show kc + 2 ≤ 639400; omega, by show ks + 12 ≤ 7177904; omega⟩ rfl rfl (Nat.le_of_ble_eq_true rfl) ?_
  refine j_istore E dL_law_284 (by decide) ?_
  refine j_aload_n E dL_law_286 rfl rfl ?_
  refine j_aload_n E dL_law_287 rfl rfl ?_
  refine j_iload E dL_law_288 rfl ?_
  refine j_iconst E dL_law_290 (v := 1) (by decide) ?_
  refine j_iadd E dL_law_291 ?_
  refine j_sld E hs.1 hs.2.1 hs.2.2.1 dL_law_292 (j := 5 * j + 1) (nI_add (5 * j) 1) (by omega) hs.2.2.2 ?_
  refine j_aload_n E dL_law_293 rfl rfl ?_
  refine j_iload E dL_law_294 rfl ?_
  refine j_iconst E dL_law_296 (v := 2) (by decide) ?_
  refine j_iadd E dL_law_297 ?_
  refine j_sld E hs.1 hs.2.1 hs.2.2.1 dL_law_298 (j := 5 * j + 2) (nI_add (5 * j) 2) (by omega) hs.2.2.2 ?_
  refine j_callV0 (ci := 7) (n := 2) E (k_X7_wire hM) dL_law_299 gL_law_X7_wire rfl (by decide +kernel) ⟨rfl, rfl, by decide, by decide⟩ ⟨by show kc + 2 ≤ 639400; omega, by show ks + 12 ≤ 7177904; omega⟩ hm1 hm2 rfl rfl rfl (Nat.le_of_ble_eq_true rfl) rfl ?_
  refine j_aload_n E dL_law_302 rfl rfl ?_
  refine j_callV1 (ci := 7) (n := 0) E (k_X7_thrown hM) dL_law_303 gL_law_X7_thrown rfl (by decide +kernel) ⟨rfl, rfl, by decide, by decide⟩ ⟨by show kc + 2 ≤ 639400; omega, by show ks + 12 ≤ 7177904; omega⟩ hm1 hm2 rfl rfl rfl (Nat.le_of_ble_eq_true rfl) rfl ?_
  refine j_iload E dL_law_306 rfl ?_
  refine j_icmp_eq E dL_law_308 (tgt := 313) (by decide) (fun _ => ?_) (fun q => absurd hS.1 q)
  refine j_goto E dL_law_313 (tgt := 1243) (by decide) ?_
  refine j_lv [0, 1, 2, 3, 4, 5] rfl ?_
  exact j_widen (by omega) (by omega) (nx _ _ _ h2)
theorem law_c03 (E : jE C cL_law 8 wsL_law RL ret room_1) (hlt : (jl C).stackTraces = false) (hx : xW (jA C) (js C) (js C).heap) (hn3 : xN3 (js C)) (hs : lS C b L xs) (hX : wX (jG C) a) (hM : wM (jG C) m) (A : sAd a m) (B : sAp a m) (h0 : simP zZ a m M M) (hj : 5 * j + 5 ≤ L) (hc : kc + 5 ≤ 639400 ∧ ks + 30 ≤ 7177904)
    (nx : ∀ (M2 : pM) (o2 : Nat → Int64) (v2 : Nat → UInt64), simP zZ a m M2 M2 → jW C 8 1243 (lvB a m b h j) [] (lX (jcy C) h o2 v2) M2 (kc + 5) (ks + 30) Q) : jW C 8 316 (lvB a m b h j) [] (lX (jcy C) h o v) M kc ks Q := by
  have hm1 := hM.1
  have hm2 := hM.2.1
  have hx1 := hX.1.1
  have hx2 := hX.1.2.1
  have hN : simP zZ a m M (oM (xRdO a M (xs (5 * j + 1)) (FP.fmul (FP.i2f (xs (5 * j + 2))) 1040187392)) M) := simP.x B h0 (frx_reading (xs (5 * j + 1)) (FP.fmul (FP.i2f (xs (5 * j + 2))) 1040187392))
  have hS := S_reading A zT_rd hN (xs (5 * j + 1)) (FP.fmul (FP.i2f (xs (5 * j + 2))) 1040187392)
  have h2 := simP.mm B hS.2 (frm_reading _ _)
  refine j_aload_n E dL_law_316 rfl rfl ?_
  refine j_aload_n E dL_law_317 rfl rfl ?_
  refine j_iload E dL_law_318 rfl ?_
  refine j_iconst E dL_law_320 (v := 1) (by decide) ?_
  refine j_iadd E dL_law_321 ?_
  refine j_sld E hs.1 hs.2.1 hs.2.2.1 dL_law_322 (j := 5 * j + 1) (nI_add (5 * j) 1) (by omega) hs.2.2.2 ?_
  refine j_aload_n E dL_law_323 rfl rfl ?_
  refine j_iload E dL_law_324 rfl ?_
  refine j_iconst E dL_law_326 (v := 2) (by decide) ?_
  refine j_iadd E dL_law_327 ?_
  refine j_sld E hs.1 hs.2.1 hs.2.2.1 dL_law_328 (j := 5 * j + 2) (nI_add (5 * j) 2) (by omega) hs.2.2.2 ?_
  refine j_i2f E dL_law_329 ?_
  refine j_ldcf E (v := 1040187392) (by decide +kernel) dL_law_330 ?_
  refine j_fmul E dL_law_332 (i8_no _) ?_
  refine j_hS (n := 3) E hx hn3 (k_L_reading hlt hX) rfl dL_law_333 gL_law_L_reading rfl (by decide +kernel) ⟨rfl, rfl, by decide, by decide⟩ ⟨by show kc + 2 ≤ 639400; omega, by show ks + 12 ≤ 7177904; omega⟩ rfl rfl (Nat.le_of_ble_eq_true rfl) ?_
  refine j_istore E dL_law_336 (by decide) ?_
  refine j_aload_n E dL_law_338 rfl rfl ?_
  refine j_aload_n E dL_law_339 rfl rfl ?_
  refine j_iload E dL_law_340 rfl ?_
  refine j_iconst E dL_law_342 (v := 1) (by decide) ?_
  refine j_iadd E dL_law_343 ?_
  refine j_sld E hs.1 hs.2.1 hs.2.2.1 dL_law_344 (j := 5 * j + 1) (nI_add (5 * j) 1) (by omega) hs.2.2.2 ?_
  refine j_aload_n E dL_law_345 rfl rfl ?_
  refine j_iload E dL_law_346 rfl ?_
  refine j_iconst E dL_law_348 (v := 2) (by decide) ?_
  refine j_iadd E dL_law_349 ?_
  refine j_sld E hs.1 hs.2.1 hs.2.2.1 dL_law_350 (j := 5 * j + 2) (nI_add (5 * j) 2) (by omega) hs.2.2.2 ?_
  refine j_i2f E dL_law_351 ?_
  refine j_ldcf E (v := 1040187392) (by decide +kernel) dL_law_352 ?_
  refine j_fmul E dL_law_354 (i8_no _) ?_
  refine j_callV0 (ci := 7) (n := 2) E (k_X7_reading hM) dL_law_355 gL_law_X7_reading rfl (by decide +kernel) ⟨rfl, rfl, by decide, by decide⟩ ⟨by show kc + 2 ≤ 639400; omega, by show ks + 12 ≤ 7177904; omega⟩ hm1 hm2 rfl rfl rfl (Nat.le_of_ble_eq_true rfl) rfl ?_
  refine j_aload_n E dL_law_358 rfl rfl ?_
  refine j_callV1 (ci := 7) (n := 0) E (k_X7_thrown hM) dL_law_359 gL_law_X7_thrown rfl (by decide +kernel) ⟨rfl, rfl, by decide, by decide⟩ ⟨by show kc + 2 ≤ 639400; omega, by show ks + 12 ≤ 7177904; omega⟩ hm1 hm2 rfl rfl rfl (Nat.le_of_ble_eq_true rfl) rfl ?_
  refine j_iload E dL_law_362 rfl ?_
  refine j_icmp_eq E dL_law_364 (tgt := 369) (by decide) (fun _ => ?_) (fun q => absurd hS.1 q)
  refine j_goto E dL_law_369 (tgt := 1243) (by decide) ?_
  refine j_lv [0, 1, 2, 3, 4, 5] rfl ?_
  exact j_widen (by omega) (by omega) (nx _ _ _ h2)
theorem law_c04 (E : jE C cL_law 8 wsL_law RL ret room_1) (hlt : (jl C).stackTraces = false) (hx : xW (jA C) (js C) (js C).heap) (hn3 : xN3 (js C)) (hs : lS C b L xs) (hX : wX (jG C) a) (hM : wM (jG C) m) (A : sAd a m) (B : sAp a m) (h0 : simP zZ a m M M) (hj : 5 * j + 5 ≤ L) (hc : kc + 5 ≤ 639400 ∧ ks + 30 ≤ 7177904)
    (nx : ∀ (M2 : pM) (o2 : Nat → Int64) (v2 : Nat → UInt64), simP zZ a m M2 M2 → jW C 8 1243 (lvB a m b h j) [] (lX (jcy C) h o2 v2) M2 (kc + 5) (ks + 30) Q) : jW C 8 372 (lvB a m b h j) [] (lX (jcy C) h o v) M kc ks Q := by
  have hm1 := hM.1
  have hm2 := hM.2.1
  have hx1 := hX.1.1
  have hx2 := hX.1.2.1
  have hN : simP zZ a m M (xApp M (a 39) (a 40) (c16 (xs (5 * j + 1)))).2 := simP.x B h0 (frx_type (c16 (xs (5 * j + 1))))
  have hS := S_type A hN (c16_n (xs (5 * j + 1)))
  have h2 := simP.mm B hS.2 (frm_type _)
  refine j_aload_n E dL_law_372 rfl rfl ?_
  refine j_aload_n E dL_law_373 rfl rfl ?_
  refine j_iload E dL_law_374 rfl ?_
  refine j_iconst E dL_law_376 (v := 1) (by decide) ?_
  refine j_iadd E dL_law_377 ?_
  refine j_sld E hs.1 hs.2.1 hs.2.2.1 dL_law_378 (j := 5 * j + 1) (nI_add (5 * j) 1) (by omega) hs.2.2.2 ?_
  refine j_i2c E dL_law_379 (v := c16 (xs (5 * j + 1))) rfl ?_
  refine j_callV1 (ci := 6) (n := 1) E (k_X6_type hX (c16_v (xs (5 * j + 1)))) dL_law_380 gL_law_X6_type rfl (by decide +kernel) ⟨rfl, rfl, by decide, by decide⟩ ⟨by show kc ≤ 639400; omega, by show ks ≤ 7177904; omega⟩ hx1 hx2 rfl rfl rfl (Nat.le_of_ble_eq_true rfl) rfl ?_
  refine j_aload_n E dL_law_383 rfl rfl ?_
  refine j_aload_n E dL_law_384 rfl rfl ?_
  refine j_iload E dL_law_385 rfl ?_
  refine j_iconst E dL_law_387 (v := 1) (by decide) ?_
  refine j_iadd E dL_law_388 ?_
  refine j_sld E hs.1 hs.2.1 hs.2.2.1 dL_law_389 (j := 5 * j + 1) (nI_add (5 * j) 1) (by omega) hs.2.2.2 ?_
  refine j_i2c E dL_law_390 (v := c16 (xs (5 * j + 1))) rfl ?_
  refine j_callV1 (ci := 7) (n := 1) E (k_X7_type hM (c16_v (xs (5 * j + 1))) (mRs_no hN).2.2.2) dL_law_391 gL_law_X7_type rfl (by decide +kernel) ⟨rfl, rfl, by decide, by decide⟩ ⟨by show kc ≤ 639400; omega, by show ks ≤ 7177904; omega⟩ hm1 hm2 rfl rfl rfl (Nat.le_of_ble_eq_true rfl) rfl ?_
  refine j_icmp_eq E dL_law_394 (tgt := 1243) (by decide) (fun _ => ?_) (fun q => absurd hS.1 q)
  refine j_lv [0, 1, 2, 3, 4, 5] rfl ?_
  exact j_widen (by omega) (by omega) (nx _ _ _ h2)
end LAW
