/-! The law: its cases -/
def mL_law : MD := (yL_law, cL_law, 7, (some .boolean), 16, 624)
theorem lgc_s (y : Int64) : lg_cmp y y = 0 := by unfold lg_cmp; simp
section Cases
variable {l : Launch} {g : GG} {J : JJ} {S : hS} {b L i x mo ou kc ns mc ms : Nat} {xs : Nat → Int32} {Q : hS → Prop} {bb : Bool}
theorem lc_weigh (C : Cx l g mL_law 600128 7301030 RL (fun _ _ => False) J) (hX : SX g b L xs) (hL : L ≤ 261) (hi : i + 3 < L) (kx : sK S x = 11) (hT : Two l g mo mX9_weigh mX10_weigh mc ms [vr (some x), vi (xs (i + 1)), vi (xs (i + 2))] [vr (some mo), vi (xs (i + 1)), vi (xs (i + 2))] S Q) (h1 : kc + mc ≤ 600128) (h2 : ns + ms ≤ 7301030) (kn : ∀ S', Q S' → J 1117 [(0, vr (some b)), (1, vr (some x)), (2, vr (some mo)), (3, vr (some ou)), (4, vi (nI i))] [] S' (kc + mc) (ns + ms)) : J 180 [(0, vr (some b)), (1, vr (some x)), (2, vr (some mo)), (3, vr (some ou)), (4, vi (nI i))] [] S kc ns := by
  refine r_aload_n (pc := 180) C dL_law_180 rfl ?_
  refine r_aload_n (pc := 181) C dL_law_181 rfl ?_
  refine r_iload (pc := 182) C dL_law_182 rfl ?_
  refine r_iconst (pc := 184) C (nI 1) dL_law_184 rfl ?_
  refine r_iadd (pc := 185) C dL_law_185 ?_
  try simp only [nI_add, pk_mul]
  refine r_sld (pc := 186) C hX dL_law_186 (vp_in_nI (by omega) (by omega)) (nI_clamp (by omega)) ?_
  refine r_aload_n (pc := 187) C dL_law_187 rfl ?_
  refine r_iload (pc := 188) C dL_law_188 rfl ?_
  refine r_iconst (pc := 190) C (nI 2) dL_law_190 rfl ?_
  refine r_iadd (pc := 191) C dL_law_191 ?_
  try simp only [nI_add, pk_mul]
  refine r_sld (pc := 192) C hX dL_law_192 (vp_in_nI (by omega) (by omega)) (nI_clamp (by omega)) ?_
  refine r_callV (pc := 193) C (hT) iX9_weigh ml_RL_63 dL_law_193 (ci := 10) rfl rfl kx rfl (by decide) rfl (by simp [cv, Value.category, va_rf]) h1 h2 (fun r193 S193 h193 => ?_)
  obtain ⟨v, rfl, km, hs⟩ := h193
  dsimp only [Option.toList, List.cons_append, List.nil_append]
  refine r_aload_n (pc := 196) C dL_law_196 rfl ?_
  refine r_aload_n (pc := 197) C dL_law_197 rfl ?_
  refine r_iload (pc := 198) C dL_law_198 rfl ?_
  refine r_iconst (pc := 200) C (nI 1) dL_law_200 rfl ?_
  refine r_iadd (pc := 201) C dL_law_201 ?_
  try simp only [nI_add, pk_mul]
  refine r_sld (pc := 202) C hX dL_law_202 (vp_in_nI (by omega) (by omega)) (nI_clamp (by omega)) ?_
  refine r_aload_n (pc := 203) C dL_law_203 rfl ?_
  refine r_iload (pc := 204) C dL_law_204 rfl ?_
  refine r_iconst (pc := 206) C (nI 2) dL_law_206 rfl ?_
  refine r_iadd (pc := 207) C dL_law_207 ?_
  try simp only [nI_add, pk_mul]
  refine r_sld (pc := 208) C hX dL_law_208 (vp_in_nI (by omega) (by omega)) (nI_clamp (by omega)) ?_
  refine r_callV (pc := 209) C (hs) iX10_weigh ml_RL_67 dL_law_209 (ci := 11) rfl rfl km rfl (by decide) rfl (by simp [cv, Value.category, va_rf]) (by omega) (by omega) (fun r209 S209 h209 => ?_)
  obtain ⟨rfl, hq⟩ := h209
  dsimp only [Option.toList, List.cons_append, List.nil_append]
  refine r_icmp_eq (pc := 212) (tgt := 1117) C dL_law_212 (by decide) (fun c212 => ?_) (fun c212 => ?_)
  · exact r_lv C [(0, vr (some b)), (1, vr (some x)), (2, vr (some mo)), (3, vr (some ou)), (4, vi (nI i))] rfl (kn _ hq)
  · exact absurd rfl c212
theorem lc_feed (C : Cx l g mL_law 600128 7301030 RL (fun _ _ => False) J) (hX : SX g b L xs) (hL : L ≤ 261) (hi : i + 3 < L) (kx : sK S x = 11) (hT : Two l g mo mX9_feed mX10_feed mc ms [vr (some x), vi (xs (i + 1))] [vr (some mo), vi (xs (i + 1))] S Q) (h1 : kc + mc ≤ 600128) (h2 : ns + ms ≤ 7301030) (kn : ∀ S', Q S' → J 1117 [(0, vr (some b)), (1, vr (some x)), (2, vr (some mo)), (3, vr (some ou)), (4, vi (nI i))] [] S' (kc + mc) (ns + ms)) : J 217 [(0, vr (some b)), (1, vr (some x)), (2, vr (some mo)), (3, vr (some ou)), (4, vi (nI i))] [] S kc ns := by
  refine r_aload_n (pc := 217) C dL_law_217 rfl ?_
  refine r_aload_n (pc := 218) C dL_law_218 rfl ?_
  refine r_iload (pc := 219) C dL_law_219 rfl ?_
  refine r_iconst (pc := 221) C (nI 1) dL_law_221 rfl ?_
  refine r_iadd (pc := 222) C dL_law_222 ?_
  try simp only [nI_add, pk_mul]
  refine r_sld (pc := 223) C hX dL_law_223 (vp_in_nI (by omega) (by omega)) (nI_clamp (by omega)) ?_
  refine r_callV (pc := 224) C (hT) iX9_feed ml_RL_68 dL_law_224 (ci := 10) rfl rfl kx rfl (by decide) rfl (by simp [cv, Value.category, va_rf]) h1 h2 (fun r224 S224 h224 => ?_)
  obtain ⟨v, rfl, km, hs⟩ := h224
  dsimp only [Option.toList, List.cons_append, List.nil_append]
  refine r_aload_n (pc := 227) C dL_law_227 rfl ?_
  refine r_aload_n (pc := 228) C dL_law_228 rfl ?_
  refine r_iload (pc := 229) C dL_law_229 rfl ?_
  refine r_iconst (pc := 231) C (nI 1) dL_law_231 rfl ?_
  refine r_iadd (pc := 232) C dL_law_232 ?_
  try simp only [nI_add, pk_mul]
  refine r_sld (pc := 233) C hX dL_law_233 (vp_in_nI (by omega) (by omega)) (nI_clamp (by omega)) ?_
  refine r_callV (pc := 234) C (hs) iX10_feed ml_RL_71 dL_law_234 (ci := 11) rfl rfl km rfl (by decide) rfl (by simp [cv, Value.category, va_rf]) (by omega) (by omega) (fun r234 S234 h234 => ?_)
  obtain ⟨rfl, hq⟩ := h234
  dsimp only [Option.toList, List.cons_append, List.nil_append]
  refine r_icmp_eq (pc := 237) (tgt := 1117) C dL_law_237 (by decide) (fun c237 => ?_) (fun c237 => ?_)
  · exact r_lv C [(0, vr (some b)), (1, vr (some x)), (2, vr (some mo)), (3, vr (some ou)), (4, vi (nI i))] rfl (kn _ hq)
  · exact absurd rfl c237
theorem lc_take (C : Cx l g mL_law 600128 7301030 RL (fun _ _ => False) J) (hX : SX g b L xs) (hL : L ≤ 261) (hi : i + 3 < L) (hT : SpH l g mL_take hhL_take mc ms [vr (some x), vi (xs (i + 1)), vr (some ou)] S (HS l g mX10_take [vr (some mo), vi (xs (i + 1))] mo ou (fun _ => True) Q)) (hQ : ∀ S', Q S' → OU S' ou) (h1 : kc + mc ≤ 600128) (h2 : ns + ms ≤ 7301030) (kn : ∀ S', Q S' → J 1117 [(0, vr (some b)), (1, vr (some x)), (2, vr (some mo)), (3, vr (some ou)), (4, vi (nI i))] [] S' (kc + mc) (ns + ms)) : J 242 [(0, vr (some b)), (1, vr (some x)), (2, vr (some mo)), (3, vr (some ou)), (4, vi (nI i))] [] S kc ns := by
  refine r_aload_n (pc := 242) C dL_law_242 rfl ?_
  refine r_aload_n (pc := 243) C dL_law_243 rfl ?_
  refine r_iload (pc := 244) C dL_law_244 rfl ?_
  refine r_iconst (pc := 246) C (nI 1) dL_law_246 rfl ?_
  refine r_iadd (pc := 247) C dL_law_247 ?_
  try simp only [nI_add, pk_mul]
  refine r_sld (pc := 248) C hX dL_law_248 (vp_in_nI (by omega) (by omega)) (nI_clamp (by omega)) ?_
  refine r_aload_n (pc := 249) C dL_law_249 rfl ?_
  refine r_callH (pc := 250) C hT iL_take ml_RL_72 dL_law_250 rfl ⟨by decide, by decide⟩ rfl (by decide) h1 h2 (fun r250 S250 h250 => ?_)
  obtain ⟨q, hq3, rfl, km, hs⟩ := h250
  dsimp only [Option.toList, List.cons_append, List.nil_append]
  refine r_istore (pc := 253) C dL_law_253 (by decide) rfl ?_
  refine r_aload_n (pc := 255) C dL_law_255 rfl ?_
  refine r_aload_n (pc := 256) C dL_law_256 rfl ?_
  refine r_iload (pc := 257) C dL_law_257 rfl ?_
  refine r_iconst (pc := 259) C (nI 1) dL_law_259 rfl ?_
  refine r_iadd (pc := 260) C dL_law_260 ?_
  try simp only [nI_add, pk_mul]
  refine r_sld (pc := 261) C hX dL_law_261 (vp_in_nI (by omega) (by omega)) (nI_clamp (by omega)) ?_
  refine r_callV (pc := 262) C (hs) iX10_take ml_RL_75 dL_law_262 (ci := 11) rfl rfl km rfl (by decide) rfl (by simp [cv, Value.category, va_rf]) (by omega) (by omega) (fun r262 S262 h262 => ?_)
  obtain ⟨v, rfl, hv, km2, hs2⟩ := h262
  dsimp only [Option.toList, List.cons_append, List.nil_append]
  refine r_istore (pc := 265) C dL_law_265 (by decide) rfl ?_
  refine r_aload_n (pc := 267) C dL_law_267 rfl ?_
  refine r_callV (pc := 268) C (hs2) iX10_thrown ml_RL_76 dL_law_268 (ci := 11) rfl rfl km2 rfl (by decide) rfl (by simp [cv, Value.category, va_rf]) (by omega) (by omega) (fun r268 S268 h268 => ?_)
  obtain ⟨rfl, h0, hq⟩ := h268
  dsimp only [Option.toList, List.cons_append, List.nil_append]
  refine r_iload (pc := 271) C dL_law_271 rfl ?_
  refine r_icmp_eq (pc := 273) (tgt := 278) C dL_law_273 (by decide) (fun c273 => ?_) (fun c273 => ?_)
  · refine r_iload (pc := 278) C dL_law_278 rfl ?_
    refine r_if_ne (pc := 280) (tgt := 295) C dL_law_280 (by decide) (fun c280 => ?_) (fun c280 => ?_)
    · refine r_goto (pc := 295) (tgt := 1117) C dL_law_295 (by decide) ?_
      exact r_lv C [(0, vr (some b)), (1, vr (some x)), (2, vr (some mo)), (3, vr (some ou)), (4, vi (nI i))] rfl (kn _ hq)
    · have hz : q = 0 := by have := nI_inj' (b := 0) c280 (by omega) (by omega); exact this
      refine r_aload_n (pc := 283) C dL_law_283 rfl ?_
      refine r_iconst (pc := 284) C (nI 0) dL_law_284 rfl ?_
      refine r_lald (pc := 285) C dL_law_285 (hQ _ hq).1 (by decide) (hQ _ hq).2 (vp_in_nI (by omega) (by omega)) (nI_clamp (by omega)) ?_
      rw [h0 hz]
      refine r_iload (pc := 286) C dL_law_286 rfl ?_
      refine r_i2l (pc := 288) C dL_law_288 ?_
      refine r_lcmp (pc := 289) C dL_law_289 ?_
      refine r_if_eq (pc := 290) (tgt := 295) C dL_law_290 (by decide) (fun c290 => ?_) (fun c290 => ?_)
      · refine r_goto (pc := 295) (tgt := 1117) C dL_law_295 (by decide) ?_
        exact r_lv C [(0, vr (some b)), (1, vr (some x)), (2, vr (some mo)), (3, vr (some ou)), (4, vi (nI i))] rfl (kn _ hq)
      · exact absurd (lgc_s _) c290
  · exact absurd rfl c273
theorem lc_query (C : Cx l g mL_law 600128 7301030 RL (fun _ _ => False) J) (hX : SX g b L xs) (hL : L ≤ 261) (hi : i + 3 < L) (kx : sK S x = 11) (hT : Two l g mo mX9_query mX10_query mc ms [vr (some x), vi (xs (i + 1))] [vr (some mo), vi (xs (i + 1))] S Q) (h1 : kc + mc ≤ 600128) (h2 : ns + ms ≤ 7301030) (kn : ∀ S', Q S' → J 1117 [(0, vr (some b)), (1, vr (some x)), (2, vr (some mo)), (3, vr (some ou)), (4, vi (nI i))] [] S' (kc + mc) (ns + ms)) : J 298 [(0, vr (some b)), (1, vr (some x)), (2, vr (some mo)), (3, vr (some ou)), (4, vi (nI i))] [] S kc ns := by
  refine r_aload_n (pc := 298) C dL_law_298 rfl ?_
  refine r_aload_n (pc := 299) C dL_law_299 rfl ?_
  refine r_iload (pc := 300) C dL_law_300 rfl ?_
  refine r_iconst (pc := 302) C (nI 1) dL_law_302 rfl ?_
  refine r_iadd (pc := 303) C dL_law_303 ?_
  try simp only [nI_add, pk_mul]
  refine r_sld (pc := 304) C hX dL_law_304 (vp_in_nI (by omega) (by omega)) (nI_clamp (by omega)) ?_
  refine r_callV (pc := 305) C (hT) iX9_query ml_RL_79 dL_law_305 (ci := 10) rfl rfl kx rfl (by decide) rfl (by simp [cv, Value.category, va_rf]) h1 h2 (fun r305 S305 h305 => ?_)
  obtain ⟨v, rfl, km, hs⟩ := h305
  dsimp only [Option.toList, List.cons_append, List.nil_append]
  refine r_aload_n (pc := 308) C dL_law_308 rfl ?_
  refine r_aload_n (pc := 309) C dL_law_309 rfl ?_
  refine r_iload (pc := 310) C dL_law_310 rfl ?_
  refine r_iconst (pc := 312) C (nI 1) dL_law_312 rfl ?_
  refine r_iadd (pc := 313) C dL_law_313 ?_
  try simp only [nI_add, pk_mul]
  refine r_sld (pc := 314) C hX dL_law_314 (vp_in_nI (by omega) (by omega)) (nI_clamp (by omega)) ?_
  refine r_callV (pc := 315) C (hs) iX10_query ml_RL_82 dL_law_315 (ci := 11) rfl rfl km rfl (by decide) rfl (by simp [cv, Value.category, va_rf]) (by omega) (by omega) (fun r315 S315 h315 => ?_)
  obtain ⟨rfl, hq⟩ := h315
  dsimp only [Option.toList, List.cons_append, List.nil_append]
  refine r_icmp_eq (pc := 318) (tgt := 1117) C dL_law_318 (by decide) (fun c318 => ?_) (fun c318 => ?_)
  · exact r_lv C [(0, vr (some b)), (1, vr (some x)), (2, vr (some mo)), (3, vr (some ou)), (4, vi (nI i))] rfl (kn _ hq)
  · exact absurd rfl c318
theorem lc_poll (C : Cx l g mL_law 600128 7301030 RL (fun _ _ => False) J) (hX : SX g b L xs) (hL : L ≤ 261) (hi : i + 3 < L) (hT : SpH l g mL_poll hhL_poll mc ms [vr (some x), vr (some ou)] S (HS l g mX10_poll [vr (some mo)] mo ou (fun _ => True) Q)) (hQ : ∀ S', Q S' → OU S' ou) (h1 : kc + mc ≤ 600128) (h2 : ns + ms ≤ 7301030) (kn : ∀ S', Q S' → J 1117 [(0, vr (some b)), (1, vr (some x)), (2, vr (some mo)), (3, vr (some ou)), (4, vi (nI i))] [] S' (kc + mc) (ns + ms)) : J 323 [(0, vr (some b)), (1, vr (some x)), (2, vr (some mo)), (3, vr (some ou)), (4, vi (nI i))] [] S kc ns := by
  refine r_aload_n (pc := 323) C dL_law_323 rfl ?_
  refine r_aload_n (pc := 324) C dL_law_324 rfl ?_
  refine r_callH (pc := 325) C hT iL_poll ml_RL_83 dL_law_325 rfl ⟨by decide, by decide⟩ rfl (by decide) h1 h2 (fun r325 S325 h325 => ?_)
  obtain ⟨q, hq3, rfl, km, hs⟩ := h325
  dsimp only [Option.toList, List.cons_append, List.nil_append]
  refine r_istore (pc := 328) C dL_law_328 (by decide) rfl ?_
  refine r_aload_n (pc := 330) C dL_law_330 rfl ?_
  refine r_callV (pc := 331) C (hs) iX10_poll ml_RL_86 dL_law_331 (ci := 11) rfl rfl km rfl (by decide) rfl (by simp [cv, Value.category, va_rf]) (by omega) (by omega) (fun r331 S331 h331 => ?_)
  obtain ⟨v, rfl, hv, km2, hs2⟩ := h331
  dsimp only [Option.toList, List.cons_append, List.nil_append]
  refine r_istore (pc := 334) C dL_law_334 (by decide) rfl ?_
  refine r_aload_n (pc := 336) C dL_law_336 rfl ?_
  refine r_callV (pc := 337) C (hs2) iX10_thrown ml_RL_76 dL_law_337 (ci := 11) rfl rfl km2 rfl (by decide) rfl (by simp [cv, Value.category, va_rf]) (by omega) (by omega) (fun r337 S337 h337 => ?_)
  obtain ⟨rfl, h0, hq⟩ := h337
  dsimp only [Option.toList, List.cons_append, List.nil_append]
  refine r_iload (pc := 340) C dL_law_340 rfl ?_
  refine r_icmp_eq (pc := 342) (tgt := 347) C dL_law_342 (by decide) (fun c342 => ?_) (fun c342 => ?_)
  · refine r_iload (pc := 347) C dL_law_347 rfl ?_
    refine r_if_ne (pc := 349) (tgt := 364) C dL_law_349 (by decide) (fun c349 => ?_) (fun c349 => ?_)
    · refine r_goto (pc := 364) (tgt := 1117) C dL_law_364 (by decide) ?_
      exact r_lv C [(0, vr (some b)), (1, vr (some x)), (2, vr (some mo)), (3, vr (some ou)), (4, vi (nI i))] rfl (kn _ hq)
    · have hz : q = 0 := by have := nI_inj' (b := 0) c349 (by omega) (by omega); exact this
      refine r_aload_n (pc := 352) C dL_law_352 rfl ?_
      refine r_iconst (pc := 353) C (nI 0) dL_law_353 rfl ?_
      refine r_lald (pc := 354) C dL_law_354 (hQ _ hq).1 (by decide) (hQ _ hq).2 (vp_in_nI (by omega) (by omega)) (nI_clamp (by omega)) ?_
      rw [h0 hz]
      refine r_iload (pc := 355) C dL_law_355 rfl ?_
      refine r_i2l (pc := 357) C dL_law_357 ?_
      refine r_lcmp (pc := 358) C dL_law_358 ?_
      refine r_if_eq (pc := 359) (tgt := 364) C dL_law_359 (by decide) (fun c359 => ?_) (fun c359 => ?_)
      · refine r_goto (pc := 364) (tgt := 1117) C dL_law_364 (by decide) ?_
        exact r_lv C [(0, vr (some b)), (1, vr (some x)), (2, vr (some mo)), (3, vr (some ou)), (4, vi (nI i))] rfl (kn _ hq)
      · exact absurd (lgc_s _) c359
  · exact absurd rfl c342
theorem lc_sampled (C : Cx l g mL_law 600128 7301030 RL (fun _ _ => False) J) (hX : SX g b L xs) (hL : L ≤ 261) (hi : i + 3 < L) (hT : SpH l g mL_sampled hhL_sampled mc ms [vr (some x), vi (xs (i + 1)), vi (xs (i + 2)), vr (some ou)] S (HS l g mX10_sampled [vr (some mo), vi (xs (i + 1)), vi (xs (i + 2))] mo ou (fun _ => True) Q)) (hQ : ∀ S', Q S' → OU S' ou) (h1 : kc + mc ≤ 600128) (h2 : ns + ms ≤ 7301030) (kn : ∀ S', Q S' → J 1117 [(0, vr (some b)), (1, vr (some x)), (2, vr (some mo)), (3, vr (some ou)), (4, vi (nI i))] [] S' (kc + mc) (ns + ms)) : J 367 [(0, vr (some b)), (1, vr (some x)), (2, vr (some mo)), (3, vr (some ou)), (4, vi (nI i))] [] S kc ns := by
  refine r_aload_n (pc := 367) C dL_law_367 rfl ?_
  refine r_aload_n (pc := 368) C dL_law_368 rfl ?_
  refine r_iload (pc := 369) C dL_law_369 rfl ?_
  refine r_iconst (pc := 371) C (nI 1) dL_law_371 rfl ?_
  refine r_iadd (pc := 372) C dL_law_372 ?_
  try simp only [nI_add, pk_mul]
  refine r_sld (pc := 373) C hX dL_law_373 (vp_in_nI (by omega) (by omega)) (nI_clamp (by omega)) ?_
  refine r_aload_n (pc := 374) C dL_law_374 rfl ?_
  refine r_iload (pc := 375) C dL_law_375 rfl ?_
  refine r_iconst (pc := 377) C (nI 2) dL_law_377 rfl ?_
  refine r_iadd (pc := 378) C dL_law_378 ?_
  try simp only [nI_add, pk_mul]
  refine r_sld (pc := 379) C hX dL_law_379 (vp_in_nI (by omega) (by omega)) (nI_clamp (by omega)) ?_
  refine r_aload_n (pc := 380) C dL_law_380 rfl ?_
  refine r_callH (pc := 381) C hT iL_sampled ml_RL_87 dL_law_381 rfl ⟨by decide, by decide⟩ rfl (by decide) h1 h2 (fun r381 S381 h381 => ?_)
  obtain ⟨q, hq3, rfl, km, hs⟩ := h381
  dsimp only [Option.toList, List.cons_append, List.nil_append]
  refine r_istore (pc := 384) C dL_law_384 (by decide) rfl ?_
  refine r_aload_n (pc := 386) C dL_law_386 rfl ?_
  refine r_aload_n (pc := 387) C dL_law_387 rfl ?_
  refine r_iload (pc := 388) C dL_law_388 rfl ?_
  refine r_iconst (pc := 390) C (nI 1) dL_law_390 rfl ?_
  refine r_iadd (pc := 391) C dL_law_391 ?_
  try simp only [nI_add, pk_mul]
  refine r_sld (pc := 392) C hX dL_law_392 (vp_in_nI (by omega) (by omega)) (nI_clamp (by omega)) ?_
  refine r_aload_n (pc := 393) C dL_law_393 rfl ?_
  refine r_iload (pc := 394) C dL_law_394 rfl ?_
  refine r_iconst (pc := 396) C (nI 2) dL_law_396 rfl ?_
  refine r_iadd (pc := 397) C dL_law_397 ?_
  try simp only [nI_add, pk_mul]
  refine r_sld (pc := 398) C hX dL_law_398 (vp_in_nI (by omega) (by omega)) (nI_clamp (by omega)) ?_
  refine r_callV (pc := 399) C (hs) iX10_sampled ml_RL_90 dL_law_399 (ci := 11) rfl rfl km rfl (by decide) rfl (by simp [cv, Value.category, va_rf]) (by omega) (by omega) (fun r399 S399 h399 => ?_)
  obtain ⟨v, rfl, hv, km2, hs2⟩ := h399
  dsimp only [Option.toList, List.cons_append, List.nil_append]
  refine r_istore (pc := 402) C dL_law_402 (by decide) rfl ?_
  refine r_aload_n (pc := 404) C dL_law_404 rfl ?_
  refine r_callV (pc := 405) C (hs2) iX10_thrown ml_RL_76 dL_law_405 (ci := 11) rfl rfl km2 rfl (by decide) rfl (by simp [cv, Value.category, va_rf]) (by omega) (by omega) (fun r405 S405 h405 => ?_)
  obtain ⟨rfl, h0, hq⟩ := h405
  dsimp only [Option.toList, List.cons_append, List.nil_append]
  refine r_iload (pc := 408) C dL_law_408 rfl ?_
  refine r_icmp_eq (pc := 410) (tgt := 415) C dL_law_410 (by decide) (fun c410 => ?_) (fun c410 => ?_)
  · refine r_iload (pc := 415) C dL_law_415 rfl ?_
    refine r_if_ne (pc := 417) (tgt := 432) C dL_law_417 (by decide) (fun c417 => ?_) (fun c417 => ?_)
    · refine r_goto (pc := 432) (tgt := 1117) C dL_law_432 (by decide) ?_
      exact r_lv C [(0, vr (some b)), (1, vr (some x)), (2, vr (some mo)), (3, vr (some ou)), (4, vi (nI i))] rfl (kn _ hq)
    · have hz : q = 0 := by have := nI_inj' (b := 0) c417 (by omega) (by omega); exact this
      refine r_aload_n (pc := 420) C dL_law_420 rfl ?_
      refine r_iconst (pc := 421) C (nI 0) dL_law_421 rfl ?_
      refine r_lald (pc := 422) C dL_law_422 (hQ _ hq).1 (by decide) (hQ _ hq).2 (vp_in_nI (by omega) (by omega)) (nI_clamp (by omega)) ?_
      rw [h0 hz]
      refine r_iload (pc := 423) C dL_law_423 rfl ?_
      refine r_i2l (pc := 425) C dL_law_425 ?_
      refine r_lcmp (pc := 426) C dL_law_426 ?_
      refine r_if_eq (pc := 427) (tgt := 432) C dL_law_427 (by decide) (fun c427 => ?_) (fun c427 => ?_)
      · refine r_goto (pc := 432) (tgt := 1117) C dL_law_432 (by decide) ?_
        exact r_lv C [(0, vr (some b)), (1, vr (some x)), (2, vr (some mo)), (3, vr (some ou)), (4, vi (nI i))] rfl (kn _ hq)
      · exact absurd (lgc_s _) c427
  · exact absurd rfl c410
theorem lc_answer (C : Cx l g mL_law 600128 7301030 RL (fun _ _ => False) J) (hX : SX g b L xs) (hL : L ≤ 261) (hi : i + 3 < L) (hb : xs (i + 3) = 0 ↔ bb = false) (hT : SpH l g mL_answer hhL_answer mc ms [vr (some x), vi (xs (i + 1)), vi (xs (i + 2)), vi (bi bb), vr (some ou)] S (HS l g mX10_answer [vr (some mo), vi (xs (i + 1)), vi (xs (i + 2)), vi (bi bb)] mo ou (fun _ => True) Q)) (hQ : ∀ S', Q S' → OU S' ou) (h1 : kc + mc ≤ 600128) (h2 : ns + ms ≤ 7301030) (kn : ∀ S', Q S' → J 1117 [(0, vr (some b)), (1, vr (some x)), (2, vr (some mo)), (3, vr (some ou)), (4, vi (nI i))] [] S' (kc + mc) (ns + ms)) : J 435 [(0, vr (some b)), (1, vr (some x)), (2, vr (some mo)), (3, vr (some ou)), (4, vi (nI i))] [] S kc ns := by
  cases bb with
  | false =>
    refine r_aload_n (pc := 435) C dL_law_435 rfl ?_
    refine r_aload_n (pc := 436) C dL_law_436 rfl ?_
    refine r_iload (pc := 437) C dL_law_437 rfl ?_
    refine r_iconst (pc := 439) C (nI 1) dL_law_439 rfl ?_
    refine r_iadd (pc := 440) C dL_law_440 ?_
    try simp only [nI_add, pk_mul]
    refine r_sld (pc := 441) C hX dL_law_441 (vp_in_nI (by omega) (by omega)) (nI_clamp (by omega)) ?_
    refine r_aload_n (pc := 442) C dL_law_442 rfl ?_
    refine r_iload (pc := 443) C dL_law_443 rfl ?_
    refine r_iconst (pc := 445) C (nI 2) dL_law_445 rfl ?_
    refine r_iadd (pc := 446) C dL_law_446 ?_
    try simp only [nI_add, pk_mul]
    refine r_sld (pc := 447) C hX dL_law_447 (vp_in_nI (by omega) (by omega)) (nI_clamp (by omega)) ?_
    refine r_aload_n (pc := 448) C dL_law_448 rfl ?_
    refine r_iload (pc := 449) C dL_law_449 rfl ?_
    refine r_iconst (pc := 451) C (nI 3) dL_law_451 rfl ?_
    refine r_iadd (pc := 452) C dL_law_452 ?_
    try simp only [nI_add, pk_mul]
    refine r_sld (pc := 453) C hX dL_law_453 (vp_in_nI (by omega) (by omega)) (nI_clamp (by omega)) ?_
    refine r_if_eq (pc := 454) (tgt := 461) C dL_law_454 (by decide) (fun c454 => ?_) (fun c454 => ?_)
    · refine r_iconst (pc := 461) C (nI 0) dL_law_461 rfl ?_
      refine r_aload_n (pc := 462) C dL_law_462 rfl ?_
      refine r_callH (pc := 463) C hT iL_answer ml_RL_91 dL_law_463 rfl ⟨by decide, by decide⟩ rfl (by decide) h1 h2 (fun r463 S463 h463 => ?_)
      obtain ⟨q, hq3, rfl, km, hs⟩ := h463
      dsimp only [Option.toList, List.cons_append, List.nil_append]
      refine r_istore (pc := 466) C dL_law_466 (by decide) rfl ?_
      refine r_aload_n (pc := 468) C dL_law_468 rfl ?_
      refine r_aload_n (pc := 469) C dL_law_469 rfl ?_
      refine r_iload (pc := 470) C dL_law_470 rfl ?_
      refine r_iconst (pc := 472) C (nI 1) dL_law_472 rfl ?_
      refine r_iadd (pc := 473) C dL_law_473 ?_
      try simp only [nI_add, pk_mul]
      refine r_sld (pc := 474) C hX dL_law_474 (vp_in_nI (by omega) (by omega)) (nI_clamp (by omega)) ?_
      refine r_aload_n (pc := 475) C dL_law_475 rfl ?_
      refine r_iload (pc := 476) C dL_law_476 rfl ?_
      refine r_iconst (pc := 478) C (nI 2) dL_law_478 rfl ?_
      refine r_iadd (pc := 479) C dL_law_479 ?_
      try simp only [nI_add, pk_mul]
      refine r_sld (pc := 480) C hX dL_law_480 (vp_in_nI (by omega) (by omega)) (nI_clamp (by omega)) ?_
      refine r_aload_n (pc := 481) C dL_law_481 rfl ?_
      refine r_iload (pc := 482) C dL_law_482 rfl ?_
      refine r_iconst (pc := 484) C (nI 3) dL_law_484 rfl ?_
      refine r_iadd (pc := 485) C dL_law_485 ?_
      try simp only [nI_add, pk_mul]
      refine r_sld (pc := 486) C hX dL_law_486 (vp_in_nI (by omega) (by omega)) (nI_clamp (by omega)) ?_
      refine r_if_eq (pc := 487) (tgt := 494) C dL_law_487 (by decide) (fun c487 => ?_) (fun c487 => ?_)
      · refine r_iconst (pc := 494) C (nI 0) dL_law_494 rfl ?_
        refine r_callV (pc := 495) C (hs) iX10_answer ml_RL_94 dL_law_495 (ci := 11) rfl rfl km rfl (by decide) rfl (by simp [cv, Value.category, va_rf]) (by omega) (by omega) (fun r495 S495 h495 => ?_)
        obtain ⟨v, rfl, hv, km2, hs2⟩ := h495
        dsimp only [Option.toList, List.cons_append, List.nil_append]
        refine r_istore (pc := 498) C dL_law_498 (by decide) rfl ?_
        refine r_aload_n (pc := 500) C dL_law_500 rfl ?_
        refine r_callV (pc := 501) C (hs2) iX10_thrown ml_RL_76 dL_law_501 (ci := 11) rfl rfl km2 rfl (by decide) rfl (by simp [cv, Value.category, va_rf]) (by omega) (by omega) (fun r501 S501 h501 => ?_)
        obtain ⟨rfl, h0, hq⟩ := h501
        dsimp only [Option.toList, List.cons_append, List.nil_append]
        refine r_iload (pc := 504) C dL_law_504 rfl ?_
        refine r_icmp_eq (pc := 506) (tgt := 511) C dL_law_506 (by decide) (fun c506 => ?_) (fun c506 => ?_)
        · refine r_iload (pc := 511) C dL_law_511 rfl ?_
          refine r_if_ne (pc := 513) (tgt := 528) C dL_law_513 (by decide) (fun c513 => ?_) (fun c513 => ?_)
          · refine r_goto (pc := 528) (tgt := 1117) C dL_law_528 (by decide) ?_
            exact r_lv C [(0, vr (some b)), (1, vr (some x)), (2, vr (some mo)), (3, vr (some ou)), (4, vi (nI i))] rfl (kn _ hq)
          · have hz : q = 0 := by have := nI_inj' (b := 0) c513 (by omega) (by omega); exact this
            refine r_aload_n (pc := 516) C dL_law_516 rfl ?_
            refine r_iconst (pc := 517) C (nI 0) dL_law_517 rfl ?_
            refine r_lald (pc := 518) C dL_law_518 (hQ _ hq).1 (by decide) (hQ _ hq).2 (vp_in_nI (by omega) (by omega)) (nI_clamp (by omega)) ?_
            rw [h0 hz]
            refine r_iload (pc := 519) C dL_law_519 rfl ?_
            refine r_i2l (pc := 521) C dL_law_521 ?_
            refine r_lcmp (pc := 522) C dL_law_522 ?_
            refine r_if_eq (pc := 523) (tgt := 528) C dL_law_523 (by decide) (fun c523 => ?_) (fun c523 => ?_)
            · refine r_goto (pc := 528) (tgt := 1117) C dL_law_528 (by decide) ?_
              exact r_lv C [(0, vr (some b)), (1, vr (some x)), (2, vr (some mo)), (3, vr (some ou)), (4, vi (nI i))] rfl (kn _ hq)
            · exact absurd (lgc_s _) c523
        · exact absurd rfl c506
      · exact absurd (hb.mpr rfl) c487
    · exact absurd (hb.mpr rfl) c454
  | true =>
    refine r_aload_n (pc := 435) C dL_law_435 rfl ?_
    refine r_aload_n (pc := 436) C dL_law_436 rfl ?_
    refine r_iload (pc := 437) C dL_law_437 rfl ?_
    refine r_iconst (pc := 439) C (nI 1) dL_law_439 rfl ?_
    refine r_iadd (pc := 440) C dL_law_440 ?_
    try simp only [nI_add, pk_mul]
    refine r_sld (pc := 441) C hX dL_law_441 (vp_in_nI (by omega) (by omega)) (nI_clamp (by omega)) ?_
    refine r_aload_n (pc := 442) C dL_law_442 rfl ?_
    refine r_iload (pc := 443) C dL_law_443 rfl ?_
    refine r_iconst (pc := 445) C (nI 2) dL_law_445 rfl ?_
    refine r_iadd (pc := 446) C dL_law_446 ?_
    try simp only [nI_add, pk_mul]
    refine r_sld (pc := 447) C hX dL_law_447 (vp_in_nI (by omega) (by omega)) (nI_clamp (by omega)) ?_
    refine r_aload_n (pc := 448) C dL_law_448 rfl ?_
    refine r_iload (pc := 449) C dL_law_449 rfl ?_
    refine r_iconst (pc := 451) C (nI 3) dL_law_451 rfl ?_
    refine r_iadd (pc := 452) C dL_law_452 ?_
    try simp only [nI_add, pk_mul]
    refine r_sld (pc := 453) C hX dL_law_453 (vp_in_nI (by omega) (by omega)) (nI_clamp (by omega)) ?_
    refine r_if_eq (pc := 454) (tgt := 461) C dL_law_454 (by decide) (fun c454 => ?_) (fun c454 => ?_)
    · exact absurd (hb.mp c454) (by decide)
    · refine r_iconst (pc := 457) C (nI 1) dL_law_457 rfl ?_
      refine r_goto (pc := 458) (tgt := 462) C dL_law_458 (by decide) ?_
      refine r_aload_n (pc := 462) C dL_law_462 rfl ?_
      refine r_callH (pc := 463) C hT iL_answer ml_RL_91 dL_law_463 rfl ⟨by decide, by decide⟩ rfl (by decide) h1 h2 (fun r463 S463 h463 => ?_)
      obtain ⟨q, hq3, rfl, km, hs⟩ := h463
      dsimp only [Option.toList, List.cons_append, List.nil_append]
      refine r_istore (pc := 466) C dL_law_466 (by decide) rfl ?_
      refine r_aload_n (pc := 468) C dL_law_468 rfl ?_
      refine r_aload_n (pc := 469) C dL_law_469 rfl ?_
      refine r_iload (pc := 470) C dL_law_470 rfl ?_
      refine r_iconst (pc := 472) C (nI 1) dL_law_472 rfl ?_
      refine r_iadd (pc := 473) C dL_law_473 ?_
      try simp only [nI_add, pk_mul]
      refine r_sld (pc := 474) C hX dL_law_474 (vp_in_nI (by omega) (by omega)) (nI_clamp (by omega)) ?_
      refine r_aload_n (pc := 475) C dL_law_475 rfl ?_
      refine r_iload (pc := 476) C dL_law_476 rfl ?_
      refine r_iconst (pc := 478) C (nI 2) dL_law_478 rfl ?_
      refine r_iadd (pc := 479) C dL_law_479 ?_
      try simp only [nI_add, pk_mul]
      refine r_sld (pc := 480) C hX dL_law_480 (vp_in_nI (by omega) (by omega)) (nI_clamp (by omega)) ?_
      refine r_aload_n (pc := 481) C dL_law_481 rfl ?_
      refine r_iload (pc := 482) C dL_law_482 rfl ?_
      refine r_iconst (pc := 484) C (nI 3) dL_law_484 rfl ?_
      refine r_iadd (pc := 485) C dL_law_485 ?_
      try simp only [nI_add, pk_mul]
      refine r_sld (pc := 486) C hX dL_law_486 (vp_in_nI (by omega) (by omega)) (nI_clamp (by omega)) ?_
      refine r_if_eq (pc := 487) (tgt := 494) C dL_law_487 (by decide) (fun c487 => ?_) (fun c487 => ?_)
      · exact absurd (hb.mp c487) (by decide)
      · refine r_iconst (pc := 490) C (nI 1) dL_law_490 rfl ?_
        refine r_goto (pc := 491) (tgt := 495) C dL_law_491 (by decide) ?_
        refine r_callV (pc := 495) C (hs) iX10_answer ml_RL_94 dL_law_495 (ci := 11) rfl rfl km rfl (by decide) rfl (by simp [cv, Value.category, va_rf]) (by omega) (by omega) (fun r495 S495 h495 => ?_)
        obtain ⟨v, rfl, hv, km2, hs2⟩ := h495
        dsimp only [Option.toList, List.cons_append, List.nil_append]
        refine r_istore (pc := 498) C dL_law_498 (by decide) rfl ?_
        refine r_aload_n (pc := 500) C dL_law_500 rfl ?_
        refine r_callV (pc := 501) C (hs2) iX10_thrown ml_RL_76 dL_law_501 (ci := 11) rfl rfl km2 rfl (by decide) rfl (by simp [cv, Value.category, va_rf]) (by omega) (by omega) (fun r501 S501 h501 => ?_)
        obtain ⟨rfl, h0, hq⟩ := h501
        dsimp only [Option.toList, List.cons_append, List.nil_append]
        refine r_iload (pc := 504) C dL_law_504 rfl ?_
        refine r_icmp_eq (pc := 506) (tgt := 511) C dL_law_506 (by decide) (fun c506 => ?_) (fun c506 => ?_)
        · refine r_iload (pc := 511) C dL_law_511 rfl ?_
          refine r_if_ne (pc := 513) (tgt := 528) C dL_law_513 (by decide) (fun c513 => ?_) (fun c513 => ?_)
          · refine r_goto (pc := 528) (tgt := 1117) C dL_law_528 (by decide) ?_
            exact r_lv C [(0, vr (some b)), (1, vr (some x)), (2, vr (some mo)), (3, vr (some ou)), (4, vi (nI i))] rfl (kn _ hq)
          · have hz : q = 0 := by have := nI_inj' (b := 0) c513 (by omega) (by omega); exact this
            refine r_aload_n (pc := 516) C dL_law_516 rfl ?_
            refine r_iconst (pc := 517) C (nI 0) dL_law_517 rfl ?_
            refine r_lald (pc := 518) C dL_law_518 (hQ _ hq).1 (by decide) (hQ _ hq).2 (vp_in_nI (by omega) (by omega)) (nI_clamp (by omega)) ?_
            rw [h0 hz]
            refine r_iload (pc := 519) C dL_law_519 rfl ?_
            refine r_i2l (pc := 521) C dL_law_521 ?_
            refine r_lcmp (pc := 522) C dL_law_522 ?_
            refine r_if_eq (pc := 523) (tgt := 528) C dL_law_523 (by decide) (fun c523 => ?_) (fun c523 => ?_)
            · refine r_goto (pc := 528) (tgt := 1117) C dL_law_528 (by decide) ?_
              exact r_lv C [(0, vr (some b)), (1, vr (some x)), (2, vr (some mo)), (3, vr (some ou)), (4, vi (nI i))] rfl (kn _ hq)
            · exact absurd (lgc_s _) c523
        · exact absurd rfl c506
theorem lc_expire (C : Cx l g mL_law 600128 7301030 RL (fun _ _ => False) J) (hX : SX g b L xs) (hL : L ≤ 261) (hi : i + 3 < L) (kx : sK S x = 11) (hT : Two l g mo mX9_expire mX10_expire mc ms [vr (some x), vi (xs (i + 1))] [vr (some mo), vi (xs (i + 1))] S Q) (h1 : kc + mc ≤ 600128) (h2 : ns + ms ≤ 7301030) (kn : ∀ S', Q S' → J 1117 [(0, vr (some b)), (1, vr (some x)), (2, vr (some mo)), (3, vr (some ou)), (4, vi (nI i))] [] S' (kc + mc) (ns + ms)) : J 531 [(0, vr (some b)), (1, vr (some x)), (2, vr (some mo)), (3, vr (some ou)), (4, vi (nI i))] [] S kc ns := by
  refine r_aload_n (pc := 531) C dL_law_531 rfl ?_
  refine r_aload_n (pc := 532) C dL_law_532 rfl ?_
  refine r_iload (pc := 533) C dL_law_533 rfl ?_
  refine r_iconst (pc := 535) C (nI 1) dL_law_535 rfl ?_
  refine r_iadd (pc := 536) C dL_law_536 ?_
  try simp only [nI_add, pk_mul]
  refine r_sld (pc := 537) C hX dL_law_537 (vp_in_nI (by omega) (by omega)) (nI_clamp (by omega)) ?_
  refine r_callV (pc := 538) C (hT) iX9_expire ml_RL_95 dL_law_538 (ci := 10) rfl rfl kx rfl (by decide) rfl (by simp [cv, Value.category, va_rf]) h1 h2 (fun r538 S538 h538 => ?_)
  obtain ⟨v, rfl, km, hs⟩ := h538
  dsimp only [Option.toList, List.cons_append, List.nil_append]
  refine r_aload_n (pc := 541) C dL_law_541 rfl ?_
  refine r_aload_n (pc := 542) C dL_law_542 rfl ?_
  refine r_iload (pc := 543) C dL_law_543 rfl ?_
  refine r_iconst (pc := 545) C (nI 1) dL_law_545 rfl ?_
  refine r_iadd (pc := 546) C dL_law_546 ?_
  try simp only [nI_add, pk_mul]
  refine r_sld (pc := 547) C hX dL_law_547 (vp_in_nI (by omega) (by omega)) (nI_clamp (by omega)) ?_
  refine r_callV (pc := 548) C (hs) iX10_expire ml_RL_98 dL_law_548 (ci := 11) rfl rfl km rfl (by decide) rfl (by simp [cv, Value.category, va_rf]) (by omega) (by omega) (fun r548 S548 h548 => ?_)
  obtain ⟨rfl, hq⟩ := h548
  dsimp only [Option.toList, List.cons_append, List.nil_append]
  refine r_icmp_eq (pc := 551) (tgt := 1117) C dL_law_551 (by decide) (fun c551 => ?_) (fun c551 => ?_)
  · exact r_lv C [(0, vr (some b)), (1, vr (some x)), (2, vr (some mo)), (3, vr (some ou)), (4, vi (nI i))] rfl (kn _ hq)
  · exact absurd rfl c551
theorem lc_look (C : Cx l g mL_law 600128 7301030 RL (fun _ _ => False) J) (hX : SX g b L xs) (hL : L ≤ 261) (hi : i + 3 < L) (hT : SpH l g mL_look hhL_look mc ms [vr (some x), vi (xs (i + 1)), vi (xs (i + 2)), vr (some ou)] S (HS l g mX10_look [vr (some mo), vi (xs (i + 1)), vi (xs (i + 2))] mo ou (fun _ => True) Q)) (hQ : ∀ S', Q S' → OU S' ou) (h1 : kc + mc ≤ 600128) (h2 : ns + ms ≤ 7301030) (kn : ∀ S', Q S' → J 1117 [(0, vr (some b)), (1, vr (some x)), (2, vr (some mo)), (3, vr (some ou)), (4, vi (nI i))] [] S' (kc + mc) (ns + ms)) : J 556 [(0, vr (some b)), (1, vr (some x)), (2, vr (some mo)), (3, vr (some ou)), (4, vi (nI i))] [] S kc ns := by
  refine r_aload_n (pc := 556) C dL_law_556 rfl ?_
  refine r_aload_n (pc := 557) C dL_law_557 rfl ?_
  refine r_iload (pc := 558) C dL_law_558 rfl ?_
  refine r_iconst (pc := 560) C (nI 1) dL_law_560 rfl ?_
  refine r_iadd (pc := 561) C dL_law_561 ?_
  try simp only [nI_add, pk_mul]
  refine r_sld (pc := 562) C hX dL_law_562 (vp_in_nI (by omega) (by omega)) (nI_clamp (by omega)) ?_
  refine r_aload_n (pc := 563) C dL_law_563 rfl ?_
  refine r_iload (pc := 564) C dL_law_564 rfl ?_
  refine r_iconst (pc := 566) C (nI 2) dL_law_566 rfl ?_
  refine r_iadd (pc := 567) C dL_law_567 ?_
  try simp only [nI_add, pk_mul]
  refine r_sld (pc := 568) C hX dL_law_568 (vp_in_nI (by omega) (by omega)) (nI_clamp (by omega)) ?_
  refine r_aload_n (pc := 569) C dL_law_569 rfl ?_
  refine r_callH (pc := 570) C hT iL_look ml_RL_99 dL_law_570 rfl ⟨by decide, by decide⟩ rfl (by decide) h1 h2 (fun r570 S570 h570 => ?_)
  obtain ⟨q, hq3, rfl, km, hs⟩ := h570
  dsimp only [Option.toList, List.cons_append, List.nil_append]
  refine r_istore (pc := 573) C dL_law_573 (by decide) rfl ?_
  refine r_aload_n (pc := 575) C dL_law_575 rfl ?_
  refine r_aload_n (pc := 576) C dL_law_576 rfl ?_
  refine r_iload (pc := 577) C dL_law_577 rfl ?_
  refine r_iconst (pc := 579) C (nI 1) dL_law_579 rfl ?_
  refine r_iadd (pc := 580) C dL_law_580 ?_
  try simp only [nI_add, pk_mul]
  refine r_sld (pc := 581) C hX dL_law_581 (vp_in_nI (by omega) (by omega)) (nI_clamp (by omega)) ?_
  refine r_aload_n (pc := 582) C dL_law_582 rfl ?_
  refine r_iload (pc := 583) C dL_law_583 rfl ?_
  refine r_iconst (pc := 585) C (nI 2) dL_law_585 rfl ?_
  refine r_iadd (pc := 586) C dL_law_586 ?_
  try simp only [nI_add, pk_mul]
  refine r_sld (pc := 587) C hX dL_law_587 (vp_in_nI (by omega) (by omega)) (nI_clamp (by omega)) ?_
  refine r_callV (pc := 588) C (hs) iX10_look ml_RL_101 dL_law_588 (ci := 11) rfl rfl km rfl (by decide) rfl (by simp [cv, Value.category, va_rf]) (by omega) (by omega) (fun r588 S588 h588 => ?_)
  obtain ⟨v, rfl, hv, km2, hs2⟩ := h588
  dsimp only [Option.toList, List.cons_append, List.nil_append]
  refine r_istore (pc := 591) C dL_law_591 (by decide) rfl ?_
  refine r_aload_n (pc := 593) C dL_law_593 rfl ?_
  refine r_callV (pc := 594) C (hs2) iX10_thrown ml_RL_76 dL_law_594 (ci := 11) rfl rfl km2 rfl (by decide) rfl (by simp [cv, Value.category, va_rf]) (by omega) (by omega) (fun r594 S594 h594 => ?_)
  obtain ⟨rfl, h0, hq⟩ := h594
  dsimp only [Option.toList, List.cons_append, List.nil_append]
  refine r_iload (pc := 597) C dL_law_597 rfl ?_
  refine r_icmp_eq (pc := 599) (tgt := 604) C dL_law_599 (by decide) (fun c599 => ?_) (fun c599 => ?_)
  · refine r_iload (pc := 604) C dL_law_604 rfl ?_
    refine r_if_ne (pc := 606) (tgt := 621) C dL_law_606 (by decide) (fun c606 => ?_) (fun c606 => ?_)
    · refine r_goto (pc := 621) (tgt := 1117) C dL_law_621 (by decide) ?_
      exact r_lv C [(0, vr (some b)), (1, vr (some x)), (2, vr (some mo)), (3, vr (some ou)), (4, vi (nI i))] rfl (kn _ hq)
    · have hz : q = 0 := by have := nI_inj' (b := 0) c606 (by omega) (by omega); exact this
      refine r_aload_n (pc := 609) C dL_law_609 rfl ?_
      refine r_iconst (pc := 610) C (nI 0) dL_law_610 rfl ?_
      refine r_lald (pc := 611) C dL_law_611 (hQ _ hq).1 (by decide) (hQ _ hq).2 (vp_in_nI (by omega) (by omega)) (nI_clamp (by omega)) ?_
      rw [h0 hz]
      refine r_iload (pc := 612) C dL_law_612 rfl ?_
      refine r_i2l (pc := 614) C dL_law_614 ?_
      refine r_lcmp (pc := 615) C dL_law_615 ?_
      refine r_if_eq (pc := 616) (tgt := 621) C dL_law_616 (by decide) (fun c616 => ?_) (fun c616 => ?_)
      · refine r_goto (pc := 621) (tgt := 1117) C dL_law_621 (by decide) ?_
        exact r_lv C [(0, vr (some b)), (1, vr (some x)), (2, vr (some mo)), (3, vr (some ou)), (4, vi (nI i))] rfl (kn _ hq)
      · exact absurd (lgc_s _) c616
  · exact absurd rfl c599
theorem lc_set (C : Cx l g mL_law 600128 7301030 RL (fun _ _ => False) J) (hX : SX g b L xs) (hL : L ≤ 261) (hi : i + 3 < L) (hT : SpH l g mL_set hhL_set mc ms [vr (some x), vi (xs (i + 1)), vi (xs (i + 2)), vi (xs (i + 3)), vr (some ou)] S (HS l g mX10_set [vr (some mo), vi (xs (i + 1)), vi (xs (i + 2)), vi (xs (i + 3))] mo ou (fun _ => True) Q)) (hQ : ∀ S', Q S' → OU S' ou) (h1 : kc + mc ≤ 600128) (h2 : ns + ms ≤ 7301030) (kn : ∀ S', Q S' → J 1117 [(0, vr (some b)), (1, vr (some x)), (2, vr (some mo)), (3, vr (some ou)), (4, vi (nI i))] [] S' (kc + mc) (ns + ms)) : J 624 [(0, vr (some b)), (1, vr (some x)), (2, vr (some mo)), (3, vr (some ou)), (4, vi (nI i))] [] S kc ns := by
  refine r_aload_n (pc := 624) C dL_law_624 rfl ?_
  refine r_aload_n (pc := 625) C dL_law_625 rfl ?_
  refine r_iload (pc := 626) C dL_law_626 rfl ?_
  refine r_iconst (pc := 628) C (nI 1) dL_law_628 rfl ?_
  refine r_iadd (pc := 629) C dL_law_629 ?_
  try simp only [nI_add, pk_mul]
  refine r_sld (pc := 630) C hX dL_law_630 (vp_in_nI (by omega) (by omega)) (nI_clamp (by omega)) ?_
  refine r_aload_n (pc := 631) C dL_law_631 rfl ?_
  refine r_iload (pc := 632) C dL_law_632 rfl ?_
  refine r_iconst (pc := 634) C (nI 2) dL_law_634 rfl ?_
  refine r_iadd (pc := 635) C dL_law_635 ?_
  try simp only [nI_add, pk_mul]
  refine r_sld (pc := 636) C hX dL_law_636 (vp_in_nI (by omega) (by omega)) (nI_clamp (by omega)) ?_
  refine r_aload_n (pc := 637) C dL_law_637 rfl ?_
  refine r_iload (pc := 638) C dL_law_638 rfl ?_
  refine r_iconst (pc := 640) C (nI 3) dL_law_640 rfl ?_
  refine r_iadd (pc := 641) C dL_law_641 ?_
  try simp only [nI_add, pk_mul]
  refine r_sld (pc := 642) C hX dL_law_642 (vp_in_nI (by omega) (by omega)) (nI_clamp (by omega)) ?_
  refine r_aload_n (pc := 643) C dL_law_643 rfl ?_
  refine r_callH (pc := 644) C hT iL_set ml_RL_102 dL_law_644 rfl ⟨by decide, by decide⟩ rfl (by decide) h1 h2 (fun r644 S644 h644 => ?_)
  obtain ⟨q, hq3, rfl, km, hs⟩ := h644
  dsimp only [Option.toList, List.cons_append, List.nil_append]
  refine r_istore (pc := 647) C dL_law_647 (by decide) rfl ?_
  refine r_aload_n (pc := 649) C dL_law_649 rfl ?_
  refine r_aload_n (pc := 650) C dL_law_650 rfl ?_
  refine r_iload (pc := 651) C dL_law_651 rfl ?_
  refine r_iconst (pc := 653) C (nI 1) dL_law_653 rfl ?_
  refine r_iadd (pc := 654) C dL_law_654 ?_
  try simp only [nI_add, pk_mul]
  refine r_sld (pc := 655) C hX dL_law_655 (vp_in_nI (by omega) (by omega)) (nI_clamp (by omega)) ?_
  refine r_aload_n (pc := 656) C dL_law_656 rfl ?_
  refine r_iload (pc := 657) C dL_law_657 rfl ?_
  refine r_iconst (pc := 659) C (nI 2) dL_law_659 rfl ?_
  refine r_iadd (pc := 660) C dL_law_660 ?_
  try simp only [nI_add, pk_mul]
  refine r_sld (pc := 661) C hX dL_law_661 (vp_in_nI (by omega) (by omega)) (nI_clamp (by omega)) ?_
  refine r_aload_n (pc := 662) C dL_law_662 rfl ?_
  refine r_iload (pc := 663) C dL_law_663 rfl ?_
  refine r_iconst (pc := 665) C (nI 3) dL_law_665 rfl ?_
  refine r_iadd (pc := 666) C dL_law_666 ?_
  try simp only [nI_add, pk_mul]
  refine r_sld (pc := 667) C hX dL_law_667 (vp_in_nI (by omega) (by omega)) (nI_clamp (by omega)) ?_
  refine r_callV (pc := 668) C (hs) iX10_set ml_RL_105 dL_law_668 (ci := 11) rfl rfl km rfl (by decide) rfl (by simp [cv, Value.category, va_rf]) (by omega) (by omega) (fun r668 S668 h668 => ?_)
  obtain ⟨v, rfl, hv, km2, hs2⟩ := h668
  dsimp only [Option.toList, List.cons_append, List.nil_append]
  refine r_istore (pc := 671) C dL_law_671 (by decide) rfl ?_
  refine r_aload_n (pc := 673) C dL_law_673 rfl ?_
  refine r_callV (pc := 674) C (hs2) iX10_thrown ml_RL_76 dL_law_674 (ci := 11) rfl rfl km2 rfl (by decide) rfl (by simp [cv, Value.category, va_rf]) (by omega) (by omega) (fun r674 S674 h674 => ?_)
  obtain ⟨rfl, h0, hq⟩ := h674
  dsimp only [Option.toList, List.cons_append, List.nil_append]
  refine r_iload (pc := 677) C dL_law_677 rfl ?_
  refine r_icmp_eq (pc := 679) (tgt := 684) C dL_law_679 (by decide) (fun c679 => ?_) (fun c679 => ?_)
  · refine r_iload (pc := 684) C dL_law_684 rfl ?_
    refine r_if_ne (pc := 686) (tgt := 701) C dL_law_686 (by decide) (fun c686 => ?_) (fun c686 => ?_)
    · refine r_goto (pc := 701) (tgt := 1117) C dL_law_701 (by decide) ?_
      exact r_lv C [(0, vr (some b)), (1, vr (some x)), (2, vr (some mo)), (3, vr (some ou)), (4, vi (nI i))] rfl (kn _ hq)
    · have hz : q = 0 := by have := nI_inj' (b := 0) c686 (by omega) (by omega); exact this
      refine r_aload_n (pc := 689) C dL_law_689 rfl ?_
      refine r_iconst (pc := 690) C (nI 0) dL_law_690 rfl ?_
      refine r_lald (pc := 691) C dL_law_691 (hQ _ hq).1 (by decide) (hQ _ hq).2 (vp_in_nI (by omega) (by omega)) (nI_clamp (by omega)) ?_
      rw [h0 hz]
      refine r_iload (pc := 692) C dL_law_692 rfl ?_
      refine r_i2l (pc := 694) C dL_law_694 ?_
      refine r_lcmp (pc := 695) C dL_law_695 ?_
      refine r_if_eq (pc := 696) (tgt := 701) C dL_law_696 (by decide) (fun c696 => ?_) (fun c696 => ?_)
      · refine r_goto (pc := 701) (tgt := 1117) C dL_law_701 (by decide) ?_
        exact r_lv C [(0, vr (some b)), (1, vr (some x)), (2, vr (some mo)), (3, vr (some ou)), (4, vi (nI i))] rfl (kn _ hq)
      · exact absurd (lgc_s _) c696
  · exact absurd rfl c679
theorem lc_byteOf (C : Cx l g mL_law 600128 7301030 RL (fun _ _ => False) J) (hX : SX g b L xs) (hL : L ≤ 261) (hi : i + 3 < L) (kx : sK S x = 11) (hT : Two l g mo mX9_byteOf mX10_byteOf mc ms [vr (some x), vi (xs (i + 1)), vi (xs (i + 2))] [vr (some mo), vi (xs (i + 1)), vi (xs (i + 2))] S Q) (h1 : kc + mc ≤ 600128) (h2 : ns + ms ≤ 7301030) (kn : ∀ S', Q S' → J 1117 [(0, vr (some b)), (1, vr (some x)), (2, vr (some mo)), (3, vr (some ou)), (4, vi (nI i))] [] S' (kc + mc) (ns + ms)) : J 704 [(0, vr (some b)), (1, vr (some x)), (2, vr (some mo)), (3, vr (some ou)), (4, vi (nI i))] [] S kc ns := by
  refine r_aload_n (pc := 704) C dL_law_704 rfl ?_
  refine r_aload_n (pc := 705) C dL_law_705 rfl ?_
  refine r_iload (pc := 706) C dL_law_706 rfl ?_
  refine r_iconst (pc := 708) C (nI 1) dL_law_708 rfl ?_
  refine r_iadd (pc := 709) C dL_law_709 ?_
  try simp only [nI_add, pk_mul]
  refine r_sld (pc := 710) C hX dL_law_710 (vp_in_nI (by omega) (by omega)) (nI_clamp (by omega)) ?_
  refine r_aload_n (pc := 711) C dL_law_711 rfl ?_
  refine r_iload (pc := 712) C dL_law_712 rfl ?_
  refine r_iconst (pc := 714) C (nI 2) dL_law_714 rfl ?_
  refine r_iadd (pc := 715) C dL_law_715 ?_
  try simp only [nI_add, pk_mul]
  refine r_sld (pc := 716) C hX dL_law_716 (vp_in_nI (by omega) (by omega)) (nI_clamp (by omega)) ?_
  refine r_callV (pc := 717) C (hT) iX9_byteOf ml_RL_106 dL_law_717 (ci := 10) rfl rfl kx rfl (by decide) rfl (by simp [cv, Value.category, va_rf]) h1 h2 (fun r717 S717 h717 => ?_)
  obtain ⟨v, rfl, km, hs⟩ := h717
  dsimp only [Option.toList, List.cons_append, List.nil_append]
  refine r_aload_n (pc := 720) C dL_law_720 rfl ?_
  refine r_aload_n (pc := 721) C dL_law_721 rfl ?_
  refine r_iload (pc := 722) C dL_law_722 rfl ?_
  refine r_iconst (pc := 724) C (nI 1) dL_law_724 rfl ?_
  refine r_iadd (pc := 725) C dL_law_725 ?_
  try simp only [nI_add, pk_mul]
  refine r_sld (pc := 726) C hX dL_law_726 (vp_in_nI (by omega) (by omega)) (nI_clamp (by omega)) ?_
  refine r_aload_n (pc := 727) C dL_law_727 rfl ?_
  refine r_iload (pc := 728) C dL_law_728 rfl ?_
  refine r_iconst (pc := 730) C (nI 2) dL_law_730 rfl ?_
  refine r_iadd (pc := 731) C dL_law_731 ?_
  try simp only [nI_add, pk_mul]
  refine r_sld (pc := 732) C hX dL_law_732 (vp_in_nI (by omega) (by omega)) (nI_clamp (by omega)) ?_
  refine r_callV (pc := 733) C (hs) iX10_byteOf ml_RL_109 dL_law_733 (ci := 11) rfl rfl km rfl (by decide) rfl (by simp [cv, Value.category, va_rf]) (by omega) (by omega) (fun r733 S733 h733 => ?_)
  obtain ⟨rfl, hq⟩ := h733
  dsimp only [Option.toList, List.cons_append, List.nil_append]
  refine r_icmp_eq (pc := 736) (tgt := 1117) C dL_law_736 (by decide) (fun c736 => ?_) (fun c736 => ?_)
  · exact r_lv C [(0, vr (some b)), (1, vr (some x)), (2, vr (some mo)), (3, vr (some ou)), (4, vi (nI i))] rfl (kn _ hq)
  · exact absurd rfl c736
theorem lc_listed (C : Cx l g mL_law 600128 7301030 RL (fun _ _ => False) J) (hX : SX g b L xs) (hL : L ≤ 261) (hi : i + 3 < L) (kx : sK S x = 11) (hT : Two l g mo mX9_listed mX10_listed mc ms [vr (some x), vi (xs (i + 1)), vi (xs (i + 2))] [vr (some mo), vi (xs (i + 1)), vi (xs (i + 2))] S Q) (h1 : kc + mc ≤ 600128) (h2 : ns + ms ≤ 7301030) (kn : ∀ S', Q S' → J 1117 [(0, vr (some b)), (1, vr (some x)), (2, vr (some mo)), (3, vr (some ou)), (4, vi (nI i))] [] S' (kc + mc) (ns + ms)) : J 741 [(0, vr (some b)), (1, vr (some x)), (2, vr (some mo)), (3, vr (some ou)), (4, vi (nI i))] [] S kc ns := by
  refine r_aload_n (pc := 741) C dL_law_741 rfl ?_
  refine r_aload_n (pc := 742) C dL_law_742 rfl ?_
  refine r_iload (pc := 743) C dL_law_743 rfl ?_
  refine r_iconst (pc := 745) C (nI 1) dL_law_745 rfl ?_
  refine r_iadd (pc := 746) C dL_law_746 ?_
  try simp only [nI_add, pk_mul]
  refine r_sld (pc := 747) C hX dL_law_747 (vp_in_nI (by omega) (by omega)) (nI_clamp (by omega)) ?_
  refine r_aload_n (pc := 748) C dL_law_748 rfl ?_
  refine r_iload (pc := 749) C dL_law_749 rfl ?_
  refine r_iconst (pc := 751) C (nI 2) dL_law_751 rfl ?_
  refine r_iadd (pc := 752) C dL_law_752 ?_
  try simp only [nI_add, pk_mul]
  refine r_sld (pc := 753) C hX dL_law_753 (vp_in_nI (by omega) (by omega)) (nI_clamp (by omega)) ?_
  refine r_callV (pc := 754) C (hT) iX9_listed ml_RL_110 dL_law_754 (ci := 10) rfl rfl kx rfl (by decide) rfl (by simp [cv, Value.category, va_rf]) h1 h2 (fun r754 S754 h754 => ?_)
  obtain ⟨v, rfl, km, hs⟩ := h754
  dsimp only [Option.toList, List.cons_append, List.nil_append]
  refine r_aload_n (pc := 757) C dL_law_757 rfl ?_
  refine r_aload_n (pc := 758) C dL_law_758 rfl ?_
  refine r_iload (pc := 759) C dL_law_759 rfl ?_
  refine r_iconst (pc := 761) C (nI 1) dL_law_761 rfl ?_
  refine r_iadd (pc := 762) C dL_law_762 ?_
  try simp only [nI_add, pk_mul]
  refine r_sld (pc := 763) C hX dL_law_763 (vp_in_nI (by omega) (by omega)) (nI_clamp (by omega)) ?_
  refine r_aload_n (pc := 764) C dL_law_764 rfl ?_
  refine r_iload (pc := 765) C dL_law_765 rfl ?_
  refine r_iconst (pc := 767) C (nI 2) dL_law_767 rfl ?_
  refine r_iadd (pc := 768) C dL_law_768 ?_
  try simp only [nI_add, pk_mul]
  refine r_sld (pc := 769) C hX dL_law_769 (vp_in_nI (by omega) (by omega)) (nI_clamp (by omega)) ?_
  refine r_callV (pc := 770) C (hs) iX10_listed ml_RL_113 dL_law_770 (ci := 11) rfl rfl km rfl (by decide) rfl (by simp [cv, Value.category, va_rf]) (by omega) (by omega) (fun r770 S770 h770 => ?_)
  obtain ⟨rfl, hq⟩ := h770
  dsimp only [Option.toList, List.cons_append, List.nil_append]
  refine r_icmp_eq (pc := 773) (tgt := 1117) C dL_law_773 (by decide) (fun c773 => ?_) (fun c773 => ?_)
  · exact r_lv C [(0, vr (some b)), (1, vr (some x)), (2, vr (some mo)), (3, vr (some ou)), (4, vi (nI i))] rfl (kn _ hq)
  · exact absurd rfl c773
theorem lc_unspent (C : Cx l g mL_law 600128 7301030 RL (fun _ _ => False) J) (hX : SX g b L xs) (hL : L ≤ 261) (hi : i + 3 < L) (kx : sK S x = 11) (hT : Two l g mo mX9_unspent mX10_unspent mc ms [vr (some x), vi (xs (i + 1)), vi (xs (i + 2))] [vr (some mo), vi (xs (i + 1)), vi (xs (i + 2))] S Q) (h1 : kc + mc ≤ 600128) (h2 : ns + ms ≤ 7301030) (kn : ∀ S', Q S' → J 1117 [(0, vr (some b)), (1, vr (some x)), (2, vr (some mo)), (3, vr (some ou)), (4, vi (nI i))] [] S' (kc + mc) (ns + ms)) : J 778 [(0, vr (some b)), (1, vr (some x)), (2, vr (some mo)), (3, vr (some ou)), (4, vi (nI i))] [] S kc ns := by
  refine r_aload_n (pc := 778) C dL_law_778 rfl ?_
  refine r_aload_n (pc := 779) C dL_law_779 rfl ?_
  refine r_iload (pc := 780) C dL_law_780 rfl ?_
  refine r_iconst (pc := 782) C (nI 1) dL_law_782 rfl ?_
  refine r_iadd (pc := 783) C dL_law_783 ?_
  try simp only [nI_add, pk_mul]
  refine r_sld (pc := 784) C hX dL_law_784 (vp_in_nI (by omega) (by omega)) (nI_clamp (by omega)) ?_
  refine r_aload_n (pc := 785) C dL_law_785 rfl ?_
  refine r_iload (pc := 786) C dL_law_786 rfl ?_
  refine r_iconst (pc := 788) C (nI 2) dL_law_788 rfl ?_
  refine r_iadd (pc := 789) C dL_law_789 ?_
  try simp only [nI_add, pk_mul]
  refine r_sld (pc := 790) C hX dL_law_790 (vp_in_nI (by omega) (by omega)) (nI_clamp (by omega)) ?_
  refine r_callV (pc := 791) C (hT) iX9_unspent ml_RL_114 dL_law_791 (ci := 10) rfl rfl kx rfl (by decide) rfl (by simp [cv, Value.category, va_rf]) h1 h2 (fun r791 S791 h791 => ?_)
  obtain ⟨v, rfl, km, hs⟩ := h791
  dsimp only [Option.toList, List.cons_append, List.nil_append]
  refine r_aload_n (pc := 794) C dL_law_794 rfl ?_
  refine r_aload_n (pc := 795) C dL_law_795 rfl ?_
  refine r_iload (pc := 796) C dL_law_796 rfl ?_
  refine r_iconst (pc := 798) C (nI 1) dL_law_798 rfl ?_
  refine r_iadd (pc := 799) C dL_law_799 ?_
  try simp only [nI_add, pk_mul]
  refine r_sld (pc := 800) C hX dL_law_800 (vp_in_nI (by omega) (by omega)) (nI_clamp (by omega)) ?_
  refine r_aload_n (pc := 801) C dL_law_801 rfl ?_
  refine r_iload (pc := 802) C dL_law_802 rfl ?_
  refine r_iconst (pc := 804) C (nI 2) dL_law_804 rfl ?_
  refine r_iadd (pc := 805) C dL_law_805 ?_
  try simp only [nI_add, pk_mul]
  refine r_sld (pc := 806) C hX dL_law_806 (vp_in_nI (by omega) (by omega)) (nI_clamp (by omega)) ?_
  refine r_callV (pc := 807) C (hs) iX10_unspent ml_RL_117 dL_law_807 (ci := 11) rfl rfl km rfl (by decide) rfl (by simp [cv, Value.category, va_rf]) (by omega) (by omega) (fun r807 S807 h807 => ?_)
  obtain ⟨rfl, hq⟩ := h807
  dsimp only [Option.toList, List.cons_append, List.nil_append]
  refine r_icmp_eq (pc := 810) (tgt := 1117) C dL_law_810 (by decide) (fun c810 => ?_) (fun c810 => ?_)
  · exact r_lv C [(0, vr (some b)), (1, vr (some x)), (2, vr (some mo)), (3, vr (some ou)), (4, vi (nI i))] rfl (kn _ hq)
  · exact absurd rfl c810
theorem lc_begin (C : Cx l g mL_law 600128 7301030 RL (fun _ _ => False) J) (hX : SX g b L xs) (hL : L ≤ 261) (hi : i + 3 < L) (kx : sK S x = 11) (hT : Two l g mo mX9_begin mX10_begin mc ms [vr (some x), vi (xs (i + 1)), vi (xs (i + 2)), vi (xs (i + 3))] [vr (some mo), vi (xs (i + 1)), vi (xs (i + 2)), vi (xs (i + 3))] S Q) (h1 : kc + mc ≤ 600128) (h2 : ns + ms ≤ 7301030) (kn : ∀ S', Q S' → J 1117 [(0, vr (some b)), (1, vr (some x)), (2, vr (some mo)), (3, vr (some ou)), (4, vi (nI i))] [] S' (kc + mc) (ns + ms)) : J 815 [(0, vr (some b)), (1, vr (some x)), (2, vr (some mo)), (3, vr (some ou)), (4, vi (nI i))] [] S kc ns := by
  refine r_aload_n (pc := 815) C dL_law_815 rfl ?_
  refine r_aload_n (pc := 816) C dL_law_816 rfl ?_
  refine r_iload (pc := 817) C dL_law_817 rfl ?_
  refine r_iconst (pc := 819) C (nI 1) dL_law_819 rfl ?_
  refine r_iadd (pc := 820) C dL_law_820 ?_
  try simp only [nI_add, pk_mul]
  refine r_sld (pc := 821) C hX dL_law_821 (vp_in_nI (by omega) (by omega)) (nI_clamp (by omega)) ?_
  refine r_aload_n (pc := 822) C dL_law_822 rfl ?_
  refine r_iload (pc := 823) C dL_law_823 rfl ?_
  refine r_iconst (pc := 825) C (nI 2) dL_law_825 rfl ?_
  refine r_iadd (pc := 826) C dL_law_826 ?_
  try simp only [nI_add, pk_mul]
  refine r_sld (pc := 827) C hX dL_law_827 (vp_in_nI (by omega) (by omega)) (nI_clamp (by omega)) ?_
  refine r_aload_n (pc := 828) C dL_law_828 rfl ?_
  refine r_iload (pc := 829) C dL_law_829 rfl ?_
  refine r_iconst (pc := 831) C (nI 3) dL_law_831 rfl ?_
  refine r_iadd (pc := 832) C dL_law_832 ?_
  try simp only [nI_add, pk_mul]
  refine r_sld (pc := 833) C hX dL_law_833 (vp_in_nI (by omega) (by omega)) (nI_clamp (by omega)) ?_
  refine r_callV (pc := 834) C (hT) iX9_begin ml_RL_118 dL_law_834 (ci := 10) rfl rfl kx rfl (by decide) rfl (by simp [cv, Value.category, va_rf]) h1 h2 (fun r834 S834 h834 => ?_)
  obtain ⟨v, rfl, km, hs⟩ := h834
  dsimp only [Option.toList, List.cons_append, List.nil_append]
  refine r_aload_n (pc := 837) C dL_law_837 rfl ?_
  refine r_aload_n (pc := 838) C dL_law_838 rfl ?_
  refine r_iload (pc := 839) C dL_law_839 rfl ?_
  refine r_iconst (pc := 841) C (nI 1) dL_law_841 rfl ?_
  refine r_iadd (pc := 842) C dL_law_842 ?_
  try simp only [nI_add, pk_mul]
  refine r_sld (pc := 843) C hX dL_law_843 (vp_in_nI (by omega) (by omega)) (nI_clamp (by omega)) ?_
  refine r_aload_n (pc := 844) C dL_law_844 rfl ?_
  refine r_iload (pc := 845) C dL_law_845 rfl ?_
  refine r_iconst (pc := 847) C (nI 2) dL_law_847 rfl ?_
  refine r_iadd (pc := 848) C dL_law_848 ?_
  try simp only [nI_add, pk_mul]
  refine r_sld (pc := 849) C hX dL_law_849 (vp_in_nI (by omega) (by omega)) (nI_clamp (by omega)) ?_
  refine r_aload_n (pc := 850) C dL_law_850 rfl ?_
  refine r_iload (pc := 851) C dL_law_851 rfl ?_
  refine r_iconst (pc := 853) C (nI 3) dL_law_853 rfl ?_
  refine r_iadd (pc := 854) C dL_law_854 ?_
  try simp only [nI_add, pk_mul]
  refine r_sld (pc := 855) C hX dL_law_855 (vp_in_nI (by omega) (by omega)) (nI_clamp (by omega)) ?_
  refine r_callV (pc := 856) C (hs) iX10_begin ml_RL_122 dL_law_856 (ci := 11) rfl rfl km rfl (by decide) rfl (by simp [cv, Value.category, va_rf]) (by omega) (by omega) (fun r856 S856 h856 => ?_)
  obtain ⟨rfl, hq⟩ := h856
  dsimp only [Option.toList, List.cons_append, List.nil_append]
  refine r_icmp_eq (pc := 859) (tgt := 1117) C dL_law_859 (by decide) (fun c859 => ?_) (fun c859 => ?_)
  · exact r_lv C [(0, vr (some b)), (1, vr (some x)), (2, vr (some mo)), (3, vr (some ou)), (4, vi (nI i))] rfl (kn _ hq)
  · exact absurd rfl c859
theorem lc_meet (C : Cx l g mL_law 600128 7301030 RL (fun _ _ => False) J) (hX : SX g b L xs) (hL : L ≤ 261) (hi : i + 3 < L) (hT : SpH l g mL_meet hhL_meet mc ms [vr (some x), vi (xs (i + 1)), vi (xs (i + 2)), vr (some ou)] S (HS l g mX10_meet [vr (some mo), vi (xs (i + 1)), vi (xs (i + 2))] mo ou (fun _ => True) Q)) (hQ : ∀ S', Q S' → OU S' ou) (h1 : kc + mc ≤ 600128) (h2 : ns + ms ≤ 7301030) (kn : ∀ S', Q S' → J 1117 [(0, vr (some b)), (1, vr (some x)), (2, vr (some mo)), (3, vr (some ou)), (4, vi (nI i))] [] S' (kc + mc) (ns + ms)) : J 864 [(0, vr (some b)), (1, vr (some x)), (2, vr (some mo)), (3, vr (some ou)), (4, vi (nI i))] [] S kc ns := by
  refine r_aload_n (pc := 864) C dL_law_864 rfl ?_
  refine r_aload_n (pc := 865) C dL_law_865 rfl ?_
  refine r_iload (pc := 866) C dL_law_866 rfl ?_
  refine r_iconst (pc := 868) C (nI 1) dL_law_868 rfl ?_
  refine r_iadd (pc := 869) C dL_law_869 ?_
  try simp only [nI_add, pk_mul]
  refine r_sld (pc := 870) C hX dL_law_870 (vp_in_nI (by omega) (by omega)) (nI_clamp (by omega)) ?_
  refine r_aload_n (pc := 871) C dL_law_871 rfl ?_
  refine r_iload (pc := 872) C dL_law_872 rfl ?_
  refine r_iconst (pc := 874) C (nI 2) dL_law_874 rfl ?_
  refine r_iadd (pc := 875) C dL_law_875 ?_
  try simp only [nI_add, pk_mul]
  refine r_sld (pc := 876) C hX dL_law_876 (vp_in_nI (by omega) (by omega)) (nI_clamp (by omega)) ?_
  refine r_aload_n (pc := 877) C dL_law_877 rfl ?_
  refine r_callH (pc := 878) C hT iL_meet ml_RL_123 dL_law_878 rfl ⟨by decide, by decide⟩ rfl (by decide) h1 h2 (fun r878 S878 h878 => ?_)
  obtain ⟨q, hq3, rfl, km, hs⟩ := h878
  dsimp only [Option.toList, List.cons_append, List.nil_append]
  refine r_istore (pc := 881) C dL_law_881 (by decide) rfl ?_
  refine r_aload_n (pc := 883) C dL_law_883 rfl ?_
  refine r_aload_n (pc := 884) C dL_law_884 rfl ?_
  refine r_iload (pc := 885) C dL_law_885 rfl ?_
  refine r_iconst (pc := 887) C (nI 1) dL_law_887 rfl ?_
  refine r_iadd (pc := 888) C dL_law_888 ?_
  try simp only [nI_add, pk_mul]
  refine r_sld (pc := 889) C hX dL_law_889 (vp_in_nI (by omega) (by omega)) (nI_clamp (by omega)) ?_
  refine r_aload_n (pc := 890) C dL_law_890 rfl ?_
  refine r_iload (pc := 891) C dL_law_891 rfl ?_
  refine r_iconst (pc := 893) C (nI 2) dL_law_893 rfl ?_
  refine r_iadd (pc := 894) C dL_law_894 ?_
  try simp only [nI_add, pk_mul]
  refine r_sld (pc := 895) C hX dL_law_895 (vp_in_nI (by omega) (by omega)) (nI_clamp (by omega)) ?_
  refine r_callV (pc := 896) C (hs) iX10_meet ml_RL_125 dL_law_896 (ci := 11) rfl rfl km rfl (by decide) rfl (by simp [cv, Value.category, va_rf]) (by omega) (by omega) (fun r896 S896 h896 => ?_)
  obtain ⟨v, rfl, hv, km2, hs2⟩ := h896
  dsimp only [Option.toList, List.cons_append, List.nil_append]
  refine r_istore (pc := 899) C dL_law_899 (by decide) rfl ?_
  refine r_aload_n (pc := 901) C dL_law_901 rfl ?_
  refine r_callV (pc := 902) C (hs2) iX10_thrown ml_RL_76 dL_law_902 (ci := 11) rfl rfl km2 rfl (by decide) rfl (by simp [cv, Value.category, va_rf]) (by omega) (by omega) (fun r902 S902 h902 => ?_)
  obtain ⟨rfl, h0, hq⟩ := h902
  dsimp only [Option.toList, List.cons_append, List.nil_append]
  refine r_iload (pc := 905) C dL_law_905 rfl ?_
  refine r_icmp_eq (pc := 907) (tgt := 912) C dL_law_907 (by decide) (fun c907 => ?_) (fun c907 => ?_)
  · refine r_iload (pc := 912) C dL_law_912 rfl ?_
    refine r_if_ne (pc := 914) (tgt := 929) C dL_law_914 (by decide) (fun c914 => ?_) (fun c914 => ?_)
    · refine r_goto (pc := 929) (tgt := 1117) C dL_law_929 (by decide) ?_
      exact r_lv C [(0, vr (some b)), (1, vr (some x)), (2, vr (some mo)), (3, vr (some ou)), (4, vi (nI i))] rfl (kn _ hq)
    · have hz : q = 0 := by have := nI_inj' (b := 0) c914 (by omega) (by omega); exact this
      refine r_aload_n (pc := 917) C dL_law_917 rfl ?_
      refine r_iconst (pc := 918) C (nI 0) dL_law_918 rfl ?_
      refine r_lald (pc := 919) C dL_law_919 (hQ _ hq).1 (by decide) (hQ _ hq).2 (vp_in_nI (by omega) (by omega)) (nI_clamp (by omega)) ?_
      rw [h0 hz]
      refine r_iload (pc := 920) C dL_law_920 rfl ?_
      refine r_i2l (pc := 922) C dL_law_922 ?_
      refine r_lcmp (pc := 923) C dL_law_923 ?_
      refine r_if_eq (pc := 924) (tgt := 929) C dL_law_924 (by decide) (fun c924 => ?_) (fun c924 => ?_)
      · refine r_goto (pc := 929) (tgt := 1117) C dL_law_929 (by decide) ?_
        exact r_lv C [(0, vr (some b)), (1, vr (some x)), (2, vr (some mo)), (3, vr (some ou)), (4, vi (nI i))] rfl (kn _ hq)
      · exact absurd (lgc_s _) c924
  · exact absurd rfl c907
theorem lc_votes (C : Cx l g mL_law 600128 7301030 RL (fun _ _ => False) J) (hX : SX g b L xs) (hL : L ≤ 261) (hi : i + 3 < L) (hT : SpH l g mL_votes hhL_votes mc ms [vr (some x), vi (xs (i + 1)), vi (xs (i + 2)), vi (xs (i + 3))] S (fun r S1 => ∃ kk : Nat, kk < 3 ∧ r = some (vi (nI kk)) ∧ sK S1 mo = 12 ∧ Sp l g mX10_votes 0 0 [vr (some mo), vi (xs (i + 1)), vi (xs (i + 2)), vi (xs (i + 3))] S1 (fun r2 S2 => r2 = none ∧ sK S2 mo = 12 ∧ Sp l g mX10_thrown 0 0 [vr (some mo)] S2 (fun r3 S3 => r3 = some (vi (nI kk)) ∧ Q S3)))) (h1 : kc + mc ≤ 600128) (h2 : ns + ms ≤ 7301030) (kn : ∀ S', Q S' → J 1117 [(0, vr (some b)), (1, vr (some x)), (2, vr (some mo)), (3, vr (some ou)), (4, vi (nI i))] [] S' (kc + mc) (ns + ms)) : J 932 [(0, vr (some b)), (1, vr (some x)), (2, vr (some mo)), (3, vr (some ou)), (4, vi (nI i))] [] S kc ns := by
  refine r_aload_n (pc := 932) C dL_law_932 rfl ?_
  refine r_aload_n (pc := 933) C dL_law_933 rfl ?_
  refine r_iload (pc := 934) C dL_law_934 rfl ?_
  refine r_iconst (pc := 936) C (nI 1) dL_law_936 rfl ?_
  refine r_iadd (pc := 937) C dL_law_937 ?_
  try simp only [nI_add, pk_mul]
  refine r_sld (pc := 938) C hX dL_law_938 (vp_in_nI (by omega) (by omega)) (nI_clamp (by omega)) ?_
  refine r_aload_n (pc := 939) C dL_law_939 rfl ?_
  refine r_iload (pc := 940) C dL_law_940 rfl ?_
  refine r_iconst (pc := 942) C (nI 2) dL_law_942 rfl ?_
  refine r_iadd (pc := 943) C dL_law_943 ?_
  try simp only [nI_add, pk_mul]
  refine r_sld (pc := 944) C hX dL_law_944 (vp_in_nI (by omega) (by omega)) (nI_clamp (by omega)) ?_
  refine r_aload_n (pc := 945) C dL_law_945 rfl ?_
  refine r_iload (pc := 946) C dL_law_946 rfl ?_
  refine r_iconst (pc := 948) C (nI 3) dL_law_948 rfl ?_
  refine r_iadd (pc := 949) C dL_law_949 ?_
  try simp only [nI_add, pk_mul]
  refine r_sld (pc := 950) C hX dL_law_950 (vp_in_nI (by omega) (by omega)) (nI_clamp (by omega)) ?_
  refine r_callH (pc := 951) C hT iL_votes ml_RL_126 dL_law_951 rfl ⟨by decide, by decide⟩ rfl (by decide) h1 h2 (fun r951 S951 h951 => ?_)
  obtain ⟨q, hq3, rfl, km, hs⟩ := h951
  dsimp only [Option.toList, List.cons_append, List.nil_append]
  refine r_istore (pc := 954) C dL_law_954 (by decide) rfl ?_
  refine r_aload_n (pc := 956) C dL_law_956 rfl ?_
  refine r_aload_n (pc := 957) C dL_law_957 rfl ?_
  refine r_iload (pc := 958) C dL_law_958 rfl ?_
  refine r_iconst (pc := 960) C (nI 1) dL_law_960 rfl ?_
  refine r_iadd (pc := 961) C dL_law_961 ?_
  try simp only [nI_add, pk_mul]
  refine r_sld (pc := 962) C hX dL_law_962 (vp_in_nI (by omega) (by omega)) (nI_clamp (by omega)) ?_
  refine r_aload_n (pc := 963) C dL_law_963 rfl ?_
  refine r_iload (pc := 964) C dL_law_964 rfl ?_
  refine r_iconst (pc := 966) C (nI 2) dL_law_966 rfl ?_
  refine r_iadd (pc := 967) C dL_law_967 ?_
  try simp only [nI_add, pk_mul]
  refine r_sld (pc := 968) C hX dL_law_968 (vp_in_nI (by omega) (by omega)) (nI_clamp (by omega)) ?_
  refine r_aload_n (pc := 969) C dL_law_969 rfl ?_
  refine r_iload (pc := 970) C dL_law_970 rfl ?_
  refine r_iconst (pc := 972) C (nI 3) dL_law_972 rfl ?_
  refine r_iadd (pc := 973) C dL_law_973 ?_
  try simp only [nI_add, pk_mul]
  refine r_sld (pc := 974) C hX dL_law_974 (vp_in_nI (by omega) (by omega)) (nI_clamp (by omega)) ?_
  refine r_callV (pc := 975) C (hs) iX10_votes ml_RL_129 dL_law_975 (ci := 11) rfl rfl km rfl (by decide) rfl (by simp [cv, Value.category, va_rf]) (by omega) (by omega) (fun r975 S975 h975 => ?_)
  obtain ⟨rfl, km2, hs2⟩ := h975
  dsimp only [Option.toList, List.cons_append, List.nil_append]
  refine r_aload_n (pc := 978) C dL_law_978 rfl ?_
  refine r_callV (pc := 979) C (hs2) iX10_thrown ml_RL_76 dL_law_979 (ci := 11) rfl rfl km2 rfl (by decide) rfl (by simp [cv, Value.category, va_rf]) (by omega) (by omega) (fun r979 S979 h979 => ?_)
  obtain ⟨rfl, hq⟩ := h979
  dsimp only [Option.toList, List.cons_append, List.nil_append]
  refine r_iload (pc := 982) C dL_law_982 rfl ?_
  refine r_icmp_eq (pc := 984) (tgt := 989) C dL_law_984 (by decide) (fun c984 => ?_) (fun c984 => ?_)
  · refine r_goto (pc := 989) (tgt := 1117) C dL_law_989 (by decide) ?_
    exact r_lv C [(0, vr (some b)), (1, vr (some x)), (2, vr (some mo)), (3, vr (some ou)), (4, vi (nI i))] rfl (kn _ hq)
  · exact absurd rfl c984
theorem lc_round (C : Cx l g mL_law 600128 7301030 RL (fun _ _ => False) J) (hX : SX g b L xs) (hL : L ≤ 261) (hi : i + 3 < L) (hT : SpH l g mL_round hhL_round mc ms [vr (some x), vi (xs (i + 1)), vr (some ou)] S (HS l g mX10_round [vr (some mo), vi (xs (i + 1))] mo ou (fun b => b = 0 ∨ b = 1) Q)) (hQ : ∀ S', Q S' → OU S' ou) (h1 : kc + mc ≤ 600128) (h2 : ns + ms ≤ 7301030) (kn : ∀ S', Q S' → J 1117 [(0, vr (some b)), (1, vr (some x)), (2, vr (some mo)), (3, vr (some ou)), (4, vi (nI i))] [] S' (kc + mc) (ns + ms)) : J 992 [(0, vr (some b)), (1, vr (some x)), (2, vr (some mo)), (3, vr (some ou)), (4, vi (nI i))] [] S kc ns := by
  refine r_aload_n (pc := 992) C dL_law_992 rfl ?_
  refine r_aload_n (pc := 993) C dL_law_993 rfl ?_
  refine r_iload (pc := 994) C dL_law_994 rfl ?_
  refine r_iconst (pc := 996) C (nI 1) dL_law_996 rfl ?_
  refine r_iadd (pc := 997) C dL_law_997 ?_
  try simp only [nI_add, pk_mul]
  refine r_sld (pc := 998) C hX dL_law_998 (vp_in_nI (by omega) (by omega)) (nI_clamp (by omega)) ?_
  refine r_aload_n (pc := 999) C dL_law_999 rfl ?_
  refine r_callH (pc := 1000) C hT iL_round ml_RL_130 dL_law_1000 rfl ⟨by decide, by decide⟩ rfl (by decide) h1 h2 (fun r1000 S1000 h1000 => ?_)
  obtain ⟨q, hq3, rfl, km, hs⟩ := h1000
  dsimp only [Option.toList, List.cons_append, List.nil_append]
  refine r_istore (pc := 1003) C dL_law_1003 (by decide) rfl ?_
  refine r_aload_n (pc := 1005) C dL_law_1005 rfl ?_
  refine r_aload_n (pc := 1006) C dL_law_1006 rfl ?_
  refine r_iload (pc := 1007) C dL_law_1007 rfl ?_
  refine r_iconst (pc := 1009) C (nI 1) dL_law_1009 rfl ?_
  refine r_iadd (pc := 1010) C dL_law_1010 ?_
  try simp only [nI_add, pk_mul]
  refine r_sld (pc := 1011) C hX dL_law_1011 (vp_in_nI (by omega) (by omega)) (nI_clamp (by omega)) ?_
  refine r_callV (pc := 1012) C (hs) iX10_round ml_RL_132 dL_law_1012 (ci := 11) rfl rfl km rfl (by decide) rfl (by simp [cv, Value.category, va_rf]) (by omega) (by omega) (fun r1012 S1012 h1012 => ?_)
  obtain ⟨v, rfl, hv, km2, hs2⟩ := h1012
  dsimp only [Option.toList, List.cons_append, List.nil_append]
  refine r_istore (pc := 1015) C dL_law_1015 (by decide) rfl ?_
  refine r_aload_n (pc := 1017) C dL_law_1017 rfl ?_
  refine r_callV (pc := 1018) C (hs2) iX10_thrown ml_RL_76 dL_law_1018 (ci := 11) rfl rfl km2 rfl (by decide) rfl (by simp [cv, Value.category, va_rf]) (by omega) (by omega) (fun r1018 S1018 h1018 => ?_)
  obtain ⟨rfl, h0, hq⟩ := h1018
  dsimp only [Option.toList, List.cons_append, List.nil_append]
  refine r_iload (pc := 1021) C dL_law_1021 rfl ?_
  refine r_icmp_eq (pc := 1023) (tgt := 1028) C dL_law_1023 (by decide) (fun c1023 => ?_) (fun c1023 => ?_)
  · refine r_iload (pc := 1028) C dL_law_1028 rfl ?_
    refine r_if_ne (pc := 1030) (tgt := 1052) C dL_law_1030 (by decide) (fun c1030 => ?_) (fun c1030 => ?_)
    · refine r_goto (pc := 1052) (tgt := 1117) C dL_law_1052 (by decide) ?_
      exact r_lv C [(0, vr (some b)), (1, vr (some x)), (2, vr (some mo)), (3, vr (some ou)), (4, vi (nI i))] rfl (kn _ hq)
    · have hz : q = 0 := by have := nI_inj' (b := 0) c1030 (by omega) (by omega); exact this
      refine r_aload_n (pc := 1033) C dL_law_1033 rfl ?_
      refine r_iconst (pc := 1034) C (nI 0) dL_law_1034 rfl ?_
      refine r_lald (pc := 1035) C dL_law_1035 (hQ _ hq).1 (by decide) (hQ _ hq).2 (vp_in_nI (by omega) (by omega)) (nI_clamp (by omega)) ?_
      rw [h0 hz]
      refine r_iload (pc := 1036) C dL_law_1036 rfl ?_
      refine r_if_eq (pc := 1038) (tgt := 1045) C dL_law_1038 (by decide) (fun c1038 => ?_) (fun c1038 => ?_)
      · have hv2 : v = 0 := c1038
        refine r_lconst (pc := 1045) C (lN 0) dL_law_1045 rfl ?_
        refine r_lcmp (pc := 1046) C dL_law_1046 ?_
        refine r_if_eq (pc := 1047) (tgt := 1052) C dL_law_1047 (by decide) (fun c1047 => ?_) (fun c1047 => ?_)
        · refine r_goto (pc := 1052) (tgt := 1117) C dL_law_1052 (by decide) ?_
          exact r_lv C [(0, vr (some b)), (1, vr (some x)), (2, vr (some mo)), (3, vr (some ou)), (4, vi (nI i))] rfl (kn _ hq)
        · exact absurd (by rw [hv2]; decide) c1047
      · have hv2 : v = 1 := hv.resolve_left c1038
        refine r_lconst (pc := 1041) C (lN 1) dL_law_1041 rfl ?_
        refine r_goto (pc := 1042) (tgt := 1046) C dL_law_1042 (by decide) ?_
        refine r_lcmp (pc := 1046) C dL_law_1046 ?_
        refine r_if_eq (pc := 1047) (tgt := 1052) C dL_law_1047 (by decide) (fun c1047 => ?_) (fun c1047 => ?_)
        · refine r_goto (pc := 1052) (tgt := 1117) C dL_law_1052 (by decide) ?_
          exact r_lv C [(0, vr (some b)), (1, vr (some x)), (2, vr (some mo)), (3, vr (some ou)), (4, vi (nI i))] rfl (kn _ hq)
        · exact absurd (by rw [hv2]; decide) c1047
  · exact absurd rfl c1023
theorem lc_state (C : Cx l g mL_law 600128 7301030 RL (fun _ _ => False) J) (hX : SX g b L xs) (hL : L ≤ 261) (hi : i + 3 < L) (kx : sK S x = 11) (hT : Two l g mo mX9_state mX10_state mc ms [vr (some x), vi (xs (i + 1)), vi (xs (i + 2))] [vr (some mo), vi (xs (i + 1)), vi (xs (i + 2))] S Q) (h1 : kc + mc ≤ 600128) (h2 : ns + ms ≤ 7301030) (kn : ∀ S', Q S' → J 1117 [(0, vr (some b)), (1, vr (some x)), (2, vr (some mo)), (3, vr (some ou)), (4, vi (nI i))] [] S' (kc + mc) (ns + ms)) : J 1055 [(0, vr (some b)), (1, vr (some x)), (2, vr (some mo)), (3, vr (some ou)), (4, vi (nI i))] [] S kc ns := by
  refine r_aload_n (pc := 1055) C dL_law_1055 rfl ?_
  refine r_aload_n (pc := 1056) C dL_law_1056 rfl ?_
  refine r_iload (pc := 1057) C dL_law_1057 rfl ?_
  refine r_iconst (pc := 1059) C (nI 1) dL_law_1059 rfl ?_
  refine r_iadd (pc := 1060) C dL_law_1060 ?_
  try simp only [nI_add, pk_mul]
  refine r_sld (pc := 1061) C hX dL_law_1061 (vp_in_nI (by omega) (by omega)) (nI_clamp (by omega)) ?_
  refine r_aload_n (pc := 1062) C dL_law_1062 rfl ?_
  refine r_iload (pc := 1063) C dL_law_1063 rfl ?_
  refine r_iconst (pc := 1065) C (nI 2) dL_law_1065 rfl ?_
  refine r_iadd (pc := 1066) C dL_law_1066 ?_
  try simp only [nI_add, pk_mul]
  refine r_sld (pc := 1067) C hX dL_law_1067 (vp_in_nI (by omega) (by omega)) (nI_clamp (by omega)) ?_
  refine r_callV (pc := 1068) C (hT) iX9_state ml_RL_133 dL_law_1068 (ci := 10) rfl rfl kx rfl (by decide) rfl (by simp [cv, Value.category, va_rf]) h1 h2 (fun r1068 S1068 h1068 => ?_)
  obtain ⟨v, rfl, km, hs⟩ := h1068
  dsimp only [Option.toList, List.cons_append, List.nil_append]
  refine r_aload_n (pc := 1071) C dL_law_1071 rfl ?_
  refine r_aload_n (pc := 1072) C dL_law_1072 rfl ?_
  refine r_iload (pc := 1073) C dL_law_1073 rfl ?_
  refine r_iconst (pc := 1075) C (nI 1) dL_law_1075 rfl ?_
  refine r_iadd (pc := 1076) C dL_law_1076 ?_
  try simp only [nI_add, pk_mul]
  refine r_sld (pc := 1077) C hX dL_law_1077 (vp_in_nI (by omega) (by omega)) (nI_clamp (by omega)) ?_
  refine r_aload_n (pc := 1078) C dL_law_1078 rfl ?_
  refine r_iload (pc := 1079) C dL_law_1079 rfl ?_
  refine r_iconst (pc := 1081) C (nI 2) dL_law_1081 rfl ?_
  refine r_iadd (pc := 1082) C dL_law_1082 ?_
  try simp only [nI_add, pk_mul]
  refine r_sld (pc := 1083) C hX dL_law_1083 (vp_in_nI (by omega) (by omega)) (nI_clamp (by omega)) ?_
  refine r_callV (pc := 1084) C (hs) iX10_state ml_RL_136 dL_law_1084 (ci := 11) rfl rfl km rfl (by decide) rfl (by simp [cv, Value.category, va_rf]) (by omega) (by omega) (fun r1084 S1084 h1084 => ?_)
  obtain ⟨rfl, hq⟩ := h1084
  dsimp only [Option.toList, List.cons_append, List.nil_append]
  refine r_icmp_eq (pc := 1087) (tgt := 1117) C dL_law_1087 (by decide) (fun c1087 => ?_) (fun c1087 => ?_)
  · exact r_lv C [(0, vr (some b)), (1, vr (some x)), (2, vr (some mo)), (3, vr (some ou)), (4, vi (nI i))] rfl (kn _ hq)
  · exact absurd rfl c1087
theorem lc_count (C : Cx l g mL_law 600128 7301030 RL (fun _ _ => False) J) (hX : SX g b L xs) (hL : L ≤ 261) (hi : i + 3 < L) (kx : sK S x = 11) (hT : Two l g mo mX9_count mX10_count mc ms [vr (some x), vi (xs (i + 1))] [vr (some mo), vi (xs (i + 1))] S Q) (h1 : kc + mc ≤ 600128) (h2 : ns + ms ≤ 7301030) (kn : ∀ S', Q S' → J 1117 [(0, vr (some b)), (1, vr (some x)), (2, vr (some mo)), (3, vr (some ou)), (4, vi (nI i))] [] S' (kc + mc) (ns + ms)) : J 1092 [(0, vr (some b)), (1, vr (some x)), (2, vr (some mo)), (3, vr (some ou)), (4, vi (nI i))] [] S kc ns := by
  refine r_aload_n (pc := 1092) C dL_law_1092 rfl ?_
  refine r_aload_n (pc := 1093) C dL_law_1093 rfl ?_
  refine r_iload (pc := 1094) C dL_law_1094 rfl ?_
  refine r_iconst (pc := 1096) C (nI 1) dL_law_1096 rfl ?_
  refine r_iadd (pc := 1097) C dL_law_1097 ?_
  try simp only [nI_add, pk_mul]
  refine r_sld (pc := 1098) C hX dL_law_1098 (vp_in_nI (by omega) (by omega)) (nI_clamp (by omega)) ?_
  refine r_callV (pc := 1099) C (hT) iX9_count ml_RL_137 dL_law_1099 (ci := 10) rfl rfl kx rfl (by decide) rfl (by simp [cv, Value.category, va_rf]) h1 h2 (fun r1099 S1099 h1099 => ?_)
  obtain ⟨v, rfl, km, hs⟩ := h1099
  dsimp only [Option.toList, List.cons_append, List.nil_append]
  refine r_aload_n (pc := 1102) C dL_law_1102 rfl ?_
  refine r_aload_n (pc := 1103) C dL_law_1103 rfl ?_
  refine r_iload (pc := 1104) C dL_law_1104 rfl ?_
  refine r_iconst (pc := 1106) C (nI 1) dL_law_1106 rfl ?_
  refine r_iadd (pc := 1107) C dL_law_1107 ?_
  try simp only [nI_add, pk_mul]
  refine r_sld (pc := 1108) C hX dL_law_1108 (vp_in_nI (by omega) (by omega)) (nI_clamp (by omega)) ?_
  refine r_callV (pc := 1109) C (hs) iX10_count ml_RL_140 dL_law_1109 (ci := 11) rfl rfl km rfl (by decide) rfl (by simp [cv, Value.category, va_rf]) (by omega) (by omega) (fun r1109 S1109 h1109 => ?_)
  obtain ⟨rfl, hq⟩ := h1109
  dsimp only [Option.toList, List.cons_append, List.nil_append]
  refine r_icmp_eq (pc := 1112) (tgt := 1117) C dL_law_1112 (by decide) (fun c1112 => ?_) (fun c1112 => ?_)
  · exact r_lv C [(0, vr (some b)), (1, vr (some x)), (2, vr (some mo)), (3, vr (some ou)), (4, vi (nI i))] rfl (kn _ hq)
  · exact absurd rfl c1112
end Cases
