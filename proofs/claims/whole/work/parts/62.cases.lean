/-! ===== the law, call by call ===== -/
theorem lg_cmp_self (x : Int64) : lg_cmp x x = 0 := by
  unfold lg_cmp
  simp
set_option maxRecDepth 100000 in
set_option maxHeartbeats 4000000 in
theorem law_place {b L : Nat} {xs : Nat → Int32} {i bc bs : Nat} {ad : sA} {nw nt : Nat} {B : sB} {Ls : sL} (hL : L ≤ 2560) (hi : i + 5 ≤ L) (hb4 : 4 ≤ bc) (hb38 : 38 ≤ bs) (hR : Rel nw nt B Ls) (K : ∀ (ad1 : sA) (nw1 nt1 : Nat) (B1 : sB) (L1 : sL) (bc1 bs1 : Nat), bc - 4 ≤ bc1 → bs - 38 ≤ bs1 → Rel nw1 nt1 B1 L1 → Es (LC b L xs) 4 1041 [some (.ref b), some (.ref (ad1 0 0)), some (.ref (ad1 25 0)), some (.int (nI i))] [] ad1 nw1 nt1 B1 L1 bc1 bs1) : Es (LC b L xs) 4 173 [some (.ref b), some (.ref (ad 0 0)), some (.ref (ad 25 0)), some (.int (nI i))] [] ad nw nt B Ls bc bs := by
  have hC : je_Ok (LC b L xs) RL cL_law 4 2000 := LC_ok
  obtain ⟨v, hc⟩ := (s_place (ad := ad) hR (xs (i + 1)) (xs (i + 2))).gen
  first | refine Es_aload_n hC dL_law_173 rfl ?_ | refine Es_aload_nN hC dL_law_173 rfl ?_
  first | refine Es_aload_n hC dL_law_174 rfl ?_ | refine Es_aload_nN hC dL_law_174 rfl ?_
  refine Es_iload_n hC dL_law_175 rfl ?_
  refine Es_iconst (v := 1) hC dL_law_176 (by decide) ?_
  refine Es_iadd hC dL_law_177 ?_
  refine Es_sld dL_law_178 (nI_add i 1) (by omega) hL ?_
  first | refine Es_aload_n hC dL_law_179 rfl ?_ | refine Es_aload_nN hC dL_law_179 rfl ?_
  refine Es_iload_n hC dL_law_180 rfl ?_
  refine Es_iconst (v := 2) hC dL_law_181 (by decide) ?_
  refine Es_iadd hC dL_law_182 ?_
  refine Es_sld dL_law_183 (nI_add i 2) (by omega) hL ?_
  refine Es_callV hC mv_L_18 dL_law_184 hc rfl rfl ⟨_, rfl, rfl⟩ rfl rfl (by decide) (Nat.le_of_ble_eq_true rfl) (fun v1 B1 L1 q => ?_)
  obtain ⟨rfl, hc2⟩ := q
  first | refine Es_aload_n hC dL_law_187 rfl ?_ | refine Es_aload_nN hC dL_law_187 rfl ?_
  first | refine Es_aload_n hC dL_law_188 rfl ?_ | refine Es_aload_nN hC dL_law_188 rfl ?_
  refine Es_iload_n hC dL_law_189 rfl ?_
  refine Es_iconst (v := 1) hC dL_law_190 (by decide) ?_
  refine Es_iadd hC dL_law_191 ?_
  refine Es_sld dL_law_192 (nI_add i 1) (by omega) hL ?_
  first | refine Es_aload_n hC dL_law_193 rfl ?_ | refine Es_aload_nN hC dL_law_193 rfl ?_
  refine Es_iload_n hC dL_law_194 rfl ?_
  refine Es_iconst (v := 2) hC dL_law_195 (by decide) ?_
  refine Es_iadd hC dL_law_196 ?_
  refine Es_sld dL_law_197 (nI_add i 2) (by omega) hL ?_
  refine Es_callV hC mv_L_22 dL_law_198 hc2 rfl rfl ⟨_, rfl, rfl⟩ rfl rfl (by decide) (Nat.le_of_ble_eq_true rfl) (fun v2 B2 L2 q => ?_)
  obtain ⟨rfl, hR2⟩ := q
  refine Es_icmp_eq hC 1041 dL_law_201 (by decide) (fun hb201 => ?_) (fun hb201 => False.elim (hb201 rfl))
  exact K _ _ _ _ _ _ _ (by omega) (by omega) hR2
set_option maxRecDepth 100000 in
set_option maxHeartbeats 4000000 in
theorem law_least {b L : Nat} {xs : Nat → Int32} {i bc bs : Nat} {ad : sA} {nw nt : Nat} {B : sB} {Ls : sL} (hL : L ≤ 2560) (hi : i + 5 ≤ L) (hb4 : 4 ≤ bc) (hb38 : 38 ≤ bs) (hR : Rel nw nt B Ls) (K : ∀ (ad1 : sA) (nw1 nt1 : Nat) (B1 : sB) (L1 : sL) (bc1 bs1 : Nat), bc - 4 ≤ bc1 → bs - 38 ≤ bs1 → Rel nw1 nt1 B1 L1 → Es (LC b L xs) 4 1041 [some (.ref b), some (.ref (ad1 0 0)), some (.ref (ad1 25 0)), some (.int (nI i))] [] ad1 nw1 nt1 B1 L1 bc1 bs1) : Es (LC b L xs) 4 206 [some (.ref b), some (.ref (ad 0 0)), some (.ref (ad 25 0)), some (.int (nI i))] [] ad nw nt B Ls bc bs := by
  have hC : je_Ok (LC b L xs) RL cL_law 4 2000 := LC_ok
  obtain ⟨v, hc⟩ := (s_least (ad := ad) hR (xs (i + 1)) (xs (i + 2))).gen
  first | refine Es_aload_n hC dL_law_206 rfl ?_ | refine Es_aload_nN hC dL_law_206 rfl ?_
  first | refine Es_aload_n hC dL_law_207 rfl ?_ | refine Es_aload_nN hC dL_law_207 rfl ?_
  refine Es_iload_n hC dL_law_208 rfl ?_
  refine Es_iconst (v := 1) hC dL_law_209 (by decide) ?_
  refine Es_iadd hC dL_law_210 ?_
  refine Es_sld dL_law_211 (nI_add i 1) (by omega) hL ?_
  first | refine Es_aload_n hC dL_law_212 rfl ?_ | refine Es_aload_nN hC dL_law_212 rfl ?_
  refine Es_iload_n hC dL_law_213 rfl ?_
  refine Es_iconst (v := 2) hC dL_law_214 (by decide) ?_
  refine Es_iadd hC dL_law_215 ?_
  refine Es_sld dL_law_216 (nI_add i 2) (by omega) hL ?_
  refine Es_callV hC mv_L_23 dL_law_217 hc rfl rfl ⟨_, rfl, rfl⟩ rfl rfl (by decide) (Nat.le_of_ble_eq_true rfl) (fun v1 B1 L1 q => ?_)
  obtain ⟨rfl, hc2⟩ := q
  first | refine Es_aload_n hC dL_law_220 rfl ?_ | refine Es_aload_nN hC dL_law_220 rfl ?_
  first | refine Es_aload_n hC dL_law_221 rfl ?_ | refine Es_aload_nN hC dL_law_221 rfl ?_
  refine Es_iload_n hC dL_law_222 rfl ?_
  refine Es_iconst (v := 1) hC dL_law_223 (by decide) ?_
  refine Es_iadd hC dL_law_224 ?_
  refine Es_sld dL_law_225 (nI_add i 1) (by omega) hL ?_
  first | refine Es_aload_n hC dL_law_226 rfl ?_ | refine Es_aload_nN hC dL_law_226 rfl ?_
  refine Es_iload_n hC dL_law_227 rfl ?_
  refine Es_iconst (v := 2) hC dL_law_228 (by decide) ?_
  refine Es_iadd hC dL_law_229 ?_
  refine Es_sld dL_law_230 (nI_add i 2) (by omega) hL ?_
  refine Es_callV hC mv_L_26 dL_law_231 hc2 rfl rfl ⟨_, rfl, rfl⟩ rfl rfl (by decide) (Nat.le_of_ble_eq_true rfl) (fun v2 B2 L2 q => ?_)
  obtain ⟨rfl, hR2⟩ := q
  refine Es_icmp_eq hC 1041 dL_law_234 (by decide) (fun hb234 => ?_) (fun hb234 => False.elim (hb234 rfl))
  exact K _ _ _ _ _ _ _ (by omega) (by omega) hR2
set_option maxRecDepth 100000 in
set_option maxHeartbeats 4000000 in
theorem law_apart {b L : Nat} {xs : Nat → Int32} {i bc bs : Nat} {ad : sA} {nw nt : Nat} {B : sB} {Ls : sL} (hL : L ≤ 2560) (hi : i + 5 ≤ L) (hb4 : 4 ≤ bc) (hb38 : 38 ≤ bs) (hR : Rel nw nt B Ls) (K : ∀ (ad1 : sA) (nw1 nt1 : Nat) (B1 : sB) (L1 : sL) (bc1 bs1 : Nat), bc - 4 ≤ bc1 → bs - 38 ≤ bs1 → Rel nw1 nt1 B1 L1 → Es (LC b L xs) 4 1041 [some (.ref b), some (.ref (ad1 0 0)), some (.ref (ad1 25 0)), some (.int (nI i))] [] ad1 nw1 nt1 B1 L1 bc1 bs1) : Es (LC b L xs) 4 239 [some (.ref b), some (.ref (ad 0 0)), some (.ref (ad 25 0)), some (.int (nI i))] [] ad nw nt B Ls bc bs := by
  have hC : je_Ok (LC b L xs) RL cL_law 4 2000 := LC_ok
  obtain ⟨v, hc⟩ := (s_apart (ad := ad) hR (xs (i + 1))).gen
  first | refine Es_aload_n hC dL_law_239 rfl ?_ | refine Es_aload_nN hC dL_law_239 rfl ?_
  first | refine Es_aload_n hC dL_law_240 rfl ?_ | refine Es_aload_nN hC dL_law_240 rfl ?_
  refine Es_iload_n hC dL_law_241 rfl ?_
  refine Es_iconst (v := 1) hC dL_law_242 (by decide) ?_
  refine Es_iadd hC dL_law_243 ?_
  refine Es_sld dL_law_244 (nI_add i 1) (by omega) hL ?_
  refine Es_callV hC mv_L_27 dL_law_245 hc rfl rfl ⟨_, rfl, rfl⟩ rfl rfl (by decide) (Nat.le_of_ble_eq_true rfl) (fun v1 B1 L1 q => ?_)
  obtain ⟨rfl, hc2⟩ := q
  first | refine Es_aload_n hC dL_law_248 rfl ?_ | refine Es_aload_nN hC dL_law_248 rfl ?_
  first | refine Es_aload_n hC dL_law_249 rfl ?_ | refine Es_aload_nN hC dL_law_249 rfl ?_
  refine Es_iload_n hC dL_law_250 rfl ?_
  refine Es_iconst (v := 1) hC dL_law_251 (by decide) ?_
  refine Es_iadd hC dL_law_252 ?_
  refine Es_sld dL_law_253 (nI_add i 1) (by omega) hL ?_
  refine Es_callV hC mv_L_31 dL_law_254 hc2 rfl rfl ⟨_, rfl, rfl⟩ rfl rfl (by decide) (Nat.le_of_ble_eq_true rfl) (fun v2 B2 L2 q => ?_)
  obtain ⟨rfl, hR2⟩ := q
  refine Es_icmp_eq hC 1041 dL_law_257 (by decide) (fun hb257 => ?_) (fun hb257 => False.elim (hb257 rfl))
  exact K _ _ _ _ _ _ _ (by omega) (by omega) hR2
set_option maxRecDepth 100000 in
set_option maxHeartbeats 4000000 in
theorem law_maker {b L : Nat} {xs : Nat → Int32} {i bc bs : Nat} {ad : sA} {nw nt : Nat} {B : sB} {Ls : sL} (hL : L ≤ 2560) (hi : i + 5 ≤ L) (hb4 : 4 ≤ bc) (hb38 : 38 ≤ bs) (hR : Rel nw nt B Ls) (K : ∀ (ad1 : sA) (nw1 nt1 : Nat) (B1 : sB) (L1 : sL) (bc1 bs1 : Nat), bc - 4 ≤ bc1 → bs - 38 ≤ bs1 → Rel nw1 nt1 B1 L1 → Es (LC b L xs) 4 1041 [some (.ref b), some (.ref (ad1 0 0)), some (.ref (ad1 25 0)), some (.int (nI i))] [] ad1 nw1 nt1 B1 L1 bc1 bs1) : Es (LC b L xs) 4 262 [some (.ref b), some (.ref (ad 0 0)), some (.ref (ad 25 0)), some (.int (nI i))] [] ad nw nt B Ls bc bs := by
  have hC : je_Ok (LC b L xs) RL cL_law 4 2000 := LC_ok
  obtain ⟨v, hc⟩ := (s_maker (ad := ad) hR (xs (i + 1)) (xs (i + 2))).gen
  first | refine Es_aload_n hC dL_law_262 rfl ?_ | refine Es_aload_nN hC dL_law_262 rfl ?_
  first | refine Es_aload_n hC dL_law_263 rfl ?_ | refine Es_aload_nN hC dL_law_263 rfl ?_
  refine Es_iload_n hC dL_law_264 rfl ?_
  refine Es_iconst (v := 1) hC dL_law_265 (by decide) ?_
  refine Es_iadd hC dL_law_266 ?_
  refine Es_sld dL_law_267 (nI_add i 1) (by omega) hL ?_
  first | refine Es_aload_n hC dL_law_268 rfl ?_ | refine Es_aload_nN hC dL_law_268 rfl ?_
  refine Es_iload_n hC dL_law_269 rfl ?_
  refine Es_iconst (v := 2) hC dL_law_270 (by decide) ?_
  refine Es_iadd hC dL_law_271 ?_
  refine Es_sld dL_law_272 (nI_add i 2) (by omega) hL ?_
  refine Es_callV hC mv_L_32 dL_law_273 hc rfl rfl ⟨_, rfl, rfl⟩ rfl rfl (by decide) (Nat.le_of_ble_eq_true rfl) (fun v1 B1 L1 q => ?_)
  obtain ⟨rfl, hc2⟩ := q
  first | refine Es_aload_n hC dL_law_276 rfl ?_ | refine Es_aload_nN hC dL_law_276 rfl ?_
  first | refine Es_aload_n hC dL_law_277 rfl ?_ | refine Es_aload_nN hC dL_law_277 rfl ?_
  refine Es_iload_n hC dL_law_278 rfl ?_
  refine Es_iconst (v := 1) hC dL_law_279 (by decide) ?_
  refine Es_iadd hC dL_law_280 ?_
  refine Es_sld dL_law_281 (nI_add i 1) (by omega) hL ?_
  first | refine Es_aload_n hC dL_law_282 rfl ?_ | refine Es_aload_nN hC dL_law_282 rfl ?_
  refine Es_iload_n hC dL_law_283 rfl ?_
  refine Es_iconst (v := 2) hC dL_law_284 (by decide) ?_
  refine Es_iadd hC dL_law_285 ?_
  refine Es_sld dL_law_286 (nI_add i 2) (by omega) hL ?_
  refine Es_callV hC mv_L_35 dL_law_287 hc2 rfl rfl ⟨_, rfl, rfl⟩ rfl rfl (by decide) (Nat.le_of_ble_eq_true rfl) (fun v2 B2 L2 q => ?_)
  obtain ⟨rfl, hR2⟩ := q
  refine Es_icmp_eq hC 1041 dL_law_290 (by decide) (fun hb290 => ?_) (fun hb290 => False.elim (hb290 rfl))
  exact K _ _ _ _ _ _ _ (by omega) (by omega) hR2
set_option maxRecDepth 100000 in
set_option maxHeartbeats 4000000 in
theorem law_put {b L : Nat} {xs : Nat → Int32} {i bc bs : Nat} {ad : sA} {nw nt : Nat} {B : sB} {Ls : sL} (hL : L ≤ 2560) (hi : i + 5 ≤ L) (hb4 : 4 ≤ bc) (hb38 : 38 ≤ bs) (hR : Rel nw nt B Ls) (K : ∀ (ad1 : sA) (nw1 nt1 : Nat) (B1 : sB) (L1 : sL) (bc1 bs1 : Nat), bc - 4 ≤ bc1 → bs - 38 ≤ bs1 → Rel nw1 nt1 B1 L1 → Es (LC b L xs) 4 1041 [some (.ref b), some (.ref (ad1 0 0)), some (.ref (ad1 25 0)), some (.int (nI i))] [] ad1 nw1 nt1 B1 L1 bc1 bs1) : Es (LC b L xs) 4 318 [some (.ref b), some (.ref (ad 0 0)), some (.ref (ad 25 0)), some (.int (nI i))] [] ad nw nt B Ls bc bs := by
  have hC : je_Ok (LC b L xs) RL cL_law 4 2000 := LC_ok
  obtain ⟨v, hc⟩ := (s_put (ad := ad) hR (xs (i + 1)) (xs (i + 2)) (xs (i + 3))).gen
  first | refine Es_aload_n hC dL_law_318 rfl ?_ | refine Es_aload_nN hC dL_law_318 rfl ?_
  first | refine Es_aload_n hC dL_law_319 rfl ?_ | refine Es_aload_nN hC dL_law_319 rfl ?_
  refine Es_iload_n hC dL_law_320 rfl ?_
  refine Es_iconst (v := 1) hC dL_law_321 (by decide) ?_
  refine Es_iadd hC dL_law_322 ?_
  refine Es_sld dL_law_323 (nI_add i 1) (by omega) hL ?_
  first | refine Es_aload_n hC dL_law_324 rfl ?_ | refine Es_aload_nN hC dL_law_324 rfl ?_
  refine Es_iload_n hC dL_law_325 rfl ?_
  refine Es_iconst (v := 2) hC dL_law_326 (by decide) ?_
  refine Es_iadd hC dL_law_327 ?_
  refine Es_sld dL_law_328 (nI_add i 2) (by omega) hL ?_
  first | refine Es_aload_n hC dL_law_329 rfl ?_ | refine Es_aload_nN hC dL_law_329 rfl ?_
  refine Es_iload_n hC dL_law_330 rfl ?_
  refine Es_iconst (v := 3) hC dL_law_331 (by decide) ?_
  refine Es_iadd hC dL_law_332 ?_
  refine Es_sld dL_law_333 (nI_add i 3) (by omega) hL ?_
  refine Es_callV hC mv_L_40 dL_law_334 hc rfl rfl ⟨_, rfl, rfl⟩ rfl rfl (by decide) (Nat.le_of_ble_eq_true rfl) (fun v1 B1 L1 q => ?_)
  obtain ⟨rfl, hc2⟩ := q
  first | refine Es_aload_n hC dL_law_337 rfl ?_ | refine Es_aload_nN hC dL_law_337 rfl ?_
  first | refine Es_aload_n hC dL_law_338 rfl ?_ | refine Es_aload_nN hC dL_law_338 rfl ?_
  refine Es_iload_n hC dL_law_339 rfl ?_
  refine Es_iconst (v := 1) hC dL_law_340 (by decide) ?_
  refine Es_iadd hC dL_law_341 ?_
  refine Es_sld dL_law_342 (nI_add i 1) (by omega) hL ?_
  first | refine Es_aload_n hC dL_law_343 rfl ?_ | refine Es_aload_nN hC dL_law_343 rfl ?_
  refine Es_iload_n hC dL_law_344 rfl ?_
  refine Es_iconst (v := 2) hC dL_law_345 (by decide) ?_
  refine Es_iadd hC dL_law_346 ?_
  refine Es_sld dL_law_347 (nI_add i 2) (by omega) hL ?_
  first | refine Es_aload_n hC dL_law_348 rfl ?_ | refine Es_aload_nN hC dL_law_348 rfl ?_
  refine Es_iload_n hC dL_law_349 rfl ?_
  refine Es_iconst (v := 3) hC dL_law_350 (by decide) ?_
  refine Es_iadd hC dL_law_351 ?_
  refine Es_sld dL_law_352 (nI_add i 3) (by omega) hL ?_
  refine Es_callV hC mv_L_44 dL_law_353 hc2 rfl rfl ⟨_, rfl, rfl⟩ rfl rfl (by decide) (Nat.le_of_ble_eq_true rfl) (fun v2 B2 L2 q => ?_)
  obtain ⟨rfl, hR2⟩ := q
  refine Es_icmp_eq hC 1041 dL_law_356 (by decide) (fun hb356 => ?_) (fun hb356 => False.elim (hb356 rfl))
  exact K _ _ _ _ _ _ _ (by omega) (by omega) hR2
set_option maxRecDepth 100000 in
set_option maxHeartbeats 4000000 in
theorem law_take {b L : Nat} {xs : Nat → Int32} {i bc bs : Nat} {ad : sA} {nw nt : Nat} {B : sB} {Ls : sL} (hL : L ≤ 2560) (hi : i + 5 ≤ L) (hb4 : 4 ≤ bc) (hb38 : 38 ≤ bs) (hR : Rel nw nt B Ls) (K : ∀ (ad1 : sA) (nw1 nt1 : Nat) (B1 : sB) (L1 : sL) (bc1 bs1 : Nat), bc - 4 ≤ bc1 → bs - 38 ≤ bs1 → Rel nw1 nt1 B1 L1 → Es (LC b L xs) 4 1041 [some (.ref b), some (.ref (ad1 0 0)), some (.ref (ad1 25 0)), some (.int (nI i))] [] ad1 nw1 nt1 B1 L1 bc1 bs1) : Es (LC b L xs) 4 361 [some (.ref b), some (.ref (ad 0 0)), some (.ref (ad 25 0)), some (.int (nI i))] [] ad nw nt B Ls bc bs := by
  have hC : je_Ok (LC b L xs) RL cL_law 4 2000 := LC_ok
  obtain ⟨v, hc⟩ := (s_take (ad := ad) hR (xs (i + 1)) (xs (i + 2))).gen
  first | refine Es_aload_n hC dL_law_361 rfl ?_ | refine Es_aload_nN hC dL_law_361 rfl ?_
  first | refine Es_aload_n hC dL_law_362 rfl ?_ | refine Es_aload_nN hC dL_law_362 rfl ?_
  refine Es_iload_n hC dL_law_363 rfl ?_
  refine Es_iconst (v := 1) hC dL_law_364 (by decide) ?_
  refine Es_iadd hC dL_law_365 ?_
  refine Es_sld dL_law_366 (nI_add i 1) (by omega) hL ?_
  first | refine Es_aload_n hC dL_law_367 rfl ?_ | refine Es_aload_nN hC dL_law_367 rfl ?_
  refine Es_iload_n hC dL_law_368 rfl ?_
  refine Es_iconst (v := 2) hC dL_law_369 (by decide) ?_
  refine Es_iadd hC dL_law_370 ?_
  refine Es_sld dL_law_371 (nI_add i 2) (by omega) hL ?_
  refine Es_callV hC mv_L_45 dL_law_372 hc rfl rfl ⟨_, rfl, rfl⟩ rfl rfl (by decide) (Nat.le_of_ble_eq_true rfl) (fun v1 B1 L1 q => ?_)
  obtain ⟨rfl, hc2⟩ := q
  first | refine Es_aload_n hC dL_law_375 rfl ?_ | refine Es_aload_nN hC dL_law_375 rfl ?_
  first | refine Es_aload_n hC dL_law_376 rfl ?_ | refine Es_aload_nN hC dL_law_376 rfl ?_
  refine Es_iload_n hC dL_law_377 rfl ?_
  refine Es_iconst (v := 1) hC dL_law_378 (by decide) ?_
  refine Es_iadd hC dL_law_379 ?_
  refine Es_sld dL_law_380 (nI_add i 1) (by omega) hL ?_
  first | refine Es_aload_n hC dL_law_381 rfl ?_ | refine Es_aload_nN hC dL_law_381 rfl ?_
  refine Es_iload_n hC dL_law_382 rfl ?_
  refine Es_iconst (v := 2) hC dL_law_383 (by decide) ?_
  refine Es_iadd hC dL_law_384 ?_
  refine Es_sld dL_law_385 (nI_add i 2) (by omega) hL ?_
  refine Es_callV hC mv_L_48 dL_law_386 hc2 rfl rfl ⟨_, rfl, rfl⟩ rfl rfl (by decide) (Nat.le_of_ble_eq_true rfl) (fun v2 B2 L2 q => ?_)
  obtain ⟨rfl, hR2⟩ := q
  refine Es_icmp_eq hC 1041 dL_law_389 (by decide) (fun hb389 => ?_) (fun hb389 => False.elim (hb389 rfl))
  exact K _ _ _ _ _ _ _ (by omega) (by omega) hR2
set_option maxRecDepth 100000 in
set_option maxHeartbeats 4000000 in
theorem law_swap {b L : Nat} {xs : Nat → Int32} {i bc bs : Nat} {ad : sA} {nw nt : Nat} {B : sB} {Ls : sL} (hL : L ≤ 2560) (hi : i + 5 ≤ L) (hb4 : 4 ≤ bc) (hb38 : 38 ≤ bs) (hR : Rel nw nt B Ls) (K : ∀ (ad1 : sA) (nw1 nt1 : Nat) (B1 : sB) (L1 : sL) (bc1 bs1 : Nat), bc - 4 ≤ bc1 → bs - 38 ≤ bs1 → Rel nw1 nt1 B1 L1 → Es (LC b L xs) 4 1041 [some (.ref b), some (.ref (ad1 0 0)), some (.ref (ad1 25 0)), some (.int (nI i))] [] ad1 nw1 nt1 B1 L1 bc1 bs1) : Es (LC b L xs) 4 394 [some (.ref b), some (.ref (ad 0 0)), some (.ref (ad 25 0)), some (.int (nI i))] [] ad nw nt B Ls bc bs := by
  have hC : je_Ok (LC b L xs) RL cL_law 4 2000 := LC_ok
  obtain ⟨v, hc⟩ := (s_swap (ad := ad) hR (xs (i + 1)) (xs (i + 2)) (xs (i + 3)) (xs (i + 4))).gen
  first | refine Es_aload_n hC dL_law_394 rfl ?_ | refine Es_aload_nN hC dL_law_394 rfl ?_
  first | refine Es_aload_n hC dL_law_395 rfl ?_ | refine Es_aload_nN hC dL_law_395 rfl ?_
  refine Es_iload_n hC dL_law_396 rfl ?_
  refine Es_iconst (v := 1) hC dL_law_397 (by decide) ?_
  refine Es_iadd hC dL_law_398 ?_
  refine Es_sld dL_law_399 (nI_add i 1) (by omega) hL ?_
  first | refine Es_aload_n hC dL_law_400 rfl ?_ | refine Es_aload_nN hC dL_law_400 rfl ?_
  refine Es_iload_n hC dL_law_401 rfl ?_
  refine Es_iconst (v := 2) hC dL_law_402 (by decide) ?_
  refine Es_iadd hC dL_law_403 ?_
  refine Es_sld dL_law_404 (nI_add i 2) (by omega) hL ?_
  first | refine Es_aload_n hC dL_law_405 rfl ?_ | refine Es_aload_nN hC dL_law_405 rfl ?_
  refine Es_iload_n hC dL_law_406 rfl ?_
  refine Es_iconst (v := 3) hC dL_law_407 (by decide) ?_
  refine Es_iadd hC dL_law_408 ?_
  refine Es_sld dL_law_409 (nI_add i 3) (by omega) hL ?_
  first | refine Es_aload_n hC dL_law_410 rfl ?_ | refine Es_aload_nN hC dL_law_410 rfl ?_
  refine Es_iload_n hC dL_law_411 rfl ?_
  refine Es_iconst (v := 4) hC dL_law_412 (by decide) ?_
  refine Es_iadd hC dL_law_413 ?_
  refine Es_sld dL_law_414 (nI_add i 4) (by omega) hL ?_
  refine Es_callV hC mv_L_49 dL_law_415 hc rfl rfl ⟨_, rfl, rfl⟩ rfl rfl (by decide) (Nat.le_of_ble_eq_true rfl) (fun v1 B1 L1 q => ?_)
  obtain ⟨rfl, hc2⟩ := q
  first | refine Es_aload_n hC dL_law_418 rfl ?_ | refine Es_aload_nN hC dL_law_418 rfl ?_
  first | refine Es_aload_n hC dL_law_419 rfl ?_ | refine Es_aload_nN hC dL_law_419 rfl ?_
  refine Es_iload_n hC dL_law_420 rfl ?_
  refine Es_iconst (v := 1) hC dL_law_421 (by decide) ?_
  refine Es_iadd hC dL_law_422 ?_
  refine Es_sld dL_law_423 (nI_add i 1) (by omega) hL ?_
  first | refine Es_aload_n hC dL_law_424 rfl ?_ | refine Es_aload_nN hC dL_law_424 rfl ?_
  refine Es_iload_n hC dL_law_425 rfl ?_
  refine Es_iconst (v := 2) hC dL_law_426 (by decide) ?_
  refine Es_iadd hC dL_law_427 ?_
  refine Es_sld dL_law_428 (nI_add i 2) (by omega) hL ?_
  first | refine Es_aload_n hC dL_law_429 rfl ?_ | refine Es_aload_nN hC dL_law_429 rfl ?_
  refine Es_iload_n hC dL_law_430 rfl ?_
  refine Es_iconst (v := 3) hC dL_law_431 (by decide) ?_
  refine Es_iadd hC dL_law_432 ?_
  refine Es_sld dL_law_433 (nI_add i 3) (by omega) hL ?_
  first | refine Es_aload_n hC dL_law_434 rfl ?_ | refine Es_aload_nN hC dL_law_434 rfl ?_
  refine Es_iload_n hC dL_law_435 rfl ?_
  refine Es_iconst (v := 4) hC dL_law_436 (by decide) ?_
  refine Es_iadd hC dL_law_437 ?_
  refine Es_sld dL_law_438 (nI_add i 4) (by omega) hL ?_
  refine Es_callV hC mv_L_53 dL_law_439 hc2 rfl rfl ⟨_, rfl, rfl⟩ rfl rfl (by decide) (Nat.le_of_ble_eq_true rfl) (fun v2 B2 L2 q => ?_)
  obtain ⟨rfl, hR2⟩ := q
  refine Es_icmp_eq hC 1041 dL_law_442 (by decide) (fun hb442 => ?_) (fun hb442 => False.elim (hb442 rfl))
  exact K _ _ _ _ _ _ _ (by omega) (by omega) hR2
set_option maxRecDepth 100000 in
set_option maxHeartbeats 4000000 in
theorem law_read {b L : Nat} {xs : Nat → Int32} {i bc bs : Nat} {ad : sA} {nw nt : Nat} {B : sB} {Ls : sL} (hL : L ≤ 2560) (hi : i + 5 ≤ L) (hb4 : 4 ≤ bc) (hb38 : 38 ≤ bs) (hR : Rel nw nt B Ls) (K : ∀ (ad1 : sA) (nw1 nt1 : Nat) (B1 : sB) (L1 : sL) (bc1 bs1 : Nat), bc - 4 ≤ bc1 → bs - 38 ≤ bs1 → Rel nw1 nt1 B1 L1 → Es (LC b L xs) 4 1041 [some (.ref b), some (.ref (ad1 0 0)), some (.ref (ad1 25 0)), some (.int (nI i))] [] ad1 nw1 nt1 B1 L1 bc1 bs1) : Es (LC b L xs) 4 447 [some (.ref b), some (.ref (ad 0 0)), some (.ref (ad 25 0)), some (.int (nI i))] [] ad nw nt B Ls bc bs := by
  have hC : je_Ok (LC b L xs) RL cL_law 4 2000 := LC_ok
  obtain ⟨v, hc⟩ := (s_read (ad := ad) hR (xs (i + 1)) (xs (i + 2))).gen
  first | refine Es_aload_n hC dL_law_447 rfl ?_ | refine Es_aload_nN hC dL_law_447 rfl ?_
  first | refine Es_aload_n hC dL_law_448 rfl ?_ | refine Es_aload_nN hC dL_law_448 rfl ?_
  refine Es_iload_n hC dL_law_449 rfl ?_
  refine Es_iconst (v := 1) hC dL_law_450 (by decide) ?_
  refine Es_iadd hC dL_law_451 ?_
  refine Es_sld dL_law_452 (nI_add i 1) (by omega) hL ?_
  first | refine Es_aload_n hC dL_law_453 rfl ?_ | refine Es_aload_nN hC dL_law_453 rfl ?_
  refine Es_iload_n hC dL_law_454 rfl ?_
  refine Es_iconst (v := 2) hC dL_law_455 (by decide) ?_
  refine Es_iadd hC dL_law_456 ?_
  refine Es_sld dL_law_457 (nI_add i 2) (by omega) hL ?_
  refine Es_callV hC mv_L_54 dL_law_458 hc rfl rfl ⟨_, rfl, rfl⟩ rfl rfl (by decide) (Nat.le_of_ble_eq_true rfl) (fun v1 B1 L1 q => ?_)
  obtain ⟨rfl, hc2⟩ := q
  first | refine Es_aload_n hC dL_law_461 rfl ?_ | refine Es_aload_nN hC dL_law_461 rfl ?_
  first | refine Es_aload_n hC dL_law_462 rfl ?_ | refine Es_aload_nN hC dL_law_462 rfl ?_
  refine Es_iload_n hC dL_law_463 rfl ?_
  refine Es_iconst (v := 1) hC dL_law_464 (by decide) ?_
  refine Es_iadd hC dL_law_465 ?_
  refine Es_sld dL_law_466 (nI_add i 1) (by omega) hL ?_
  first | refine Es_aload_n hC dL_law_467 rfl ?_ | refine Es_aload_nN hC dL_law_467 rfl ?_
  refine Es_iload_n hC dL_law_468 rfl ?_
  refine Es_iconst (v := 2) hC dL_law_469 (by decide) ?_
  refine Es_iadd hC dL_law_470 ?_
  refine Es_sld dL_law_471 (nI_add i 2) (by omega) hL ?_
  refine Es_callV hC mv_L_57 dL_law_472 hc2 rfl rfl ⟨_, rfl, rfl⟩ rfl rfl (by decide) (Nat.le_of_ble_eq_true rfl) (fun v2 B2 L2 q => ?_)
  obtain ⟨rfl, hR2⟩ := q
  refine Es_icmp_eq hC 1041 dL_law_475 (by decide) (fun hb475 => ?_) (fun hb475 => False.elim (hb475 rfl))
  exact K _ _ _ _ _ _ _ (by omega) (by omega) hR2
set_option maxRecDepth 100000 in
set_option maxHeartbeats 4000000 in
theorem law_go {b L : Nat} {xs : Nat → Int32} {i bc bs : Nat} {ad : sA} {nw nt : Nat} {B : sB} {Ls : sL} (hL : L ≤ 2560) (hi : i + 5 ≤ L) (hb4 : 4 ≤ bc) (hb38 : 38 ≤ bs) (hR : Rel nw nt B Ls) (K : ∀ (ad1 : sA) (nw1 nt1 : Nat) (B1 : sB) (L1 : sL) (bc1 bs1 : Nat), bc - 4 ≤ bc1 → bs - 38 ≤ bs1 → Rel nw1 nt1 B1 L1 → Es (LC b L xs) 4 1041 [some (.ref b), some (.ref (ad1 0 0)), some (.ref (ad1 25 0)), some (.int (nI i))] [] ad1 nw1 nt1 B1 L1 bc1 bs1) : Es (LC b L xs) 4 480 [some (.ref b), some (.ref (ad 0 0)), some (.ref (ad 25 0)), some (.int (nI i))] [] ad nw nt B Ls bc bs := by
  have hC : je_Ok (LC b L xs) RL cL_law 4 2000 := LC_ok
  by_cases hz : xs (i + 3) = 0
  · obtain ⟨v, hc⟩ := s_go (ad := ad) hR (xs (i + 1)) (xs (i + 2)) 0
    first | refine Es_aload_n hC dL_law_480 rfl ?_ | refine Es_aload_nN hC dL_law_480 rfl ?_
    first | refine Es_aload_n hC dL_law_481 rfl ?_ | refine Es_aload_nN hC dL_law_481 rfl ?_
    refine Es_iload_n hC dL_law_482 rfl ?_
    refine Es_iconst (v := 1) hC dL_law_483 (by decide) ?_
    refine Es_iadd hC dL_law_484 ?_
    refine Es_sld dL_law_485 (nI_add i 1) (by omega) hL ?_
    first | refine Es_aload_n hC dL_law_486 rfl ?_ | refine Es_aload_nN hC dL_law_486 rfl ?_
    refine Es_iload_n hC dL_law_487 rfl ?_
    refine Es_iconst (v := 2) hC dL_law_488 (by decide) ?_
    refine Es_iadd hC dL_law_489 ?_
    refine Es_sld dL_law_490 (nI_add i 2) (by omega) hL ?_
    first | refine Es_aload_n hC dL_law_491 rfl ?_ | refine Es_aload_nN hC dL_law_491 rfl ?_
    refine Es_iload_n hC dL_law_492 rfl ?_
    refine Es_iconst (v := 3) hC dL_law_493 (by decide) ?_
    refine Es_iadd hC dL_law_494 ?_
    refine Es_sld dL_law_495 (nI_add i 3) (by omega) hL ?_
    refine Es_if_eq hC 503 dL_law_496 (by decide) (fun hb496 => ?_) (fun hb496 => False.elim (hb496 hz))
    refine Es_iconst (v := 0) hC dL_law_503 (by decide) ?_
    refine Es_callV hC mv_L_58 dL_law_504 hc rfl rfl ⟨_, rfl, rfl⟩ rfl rfl (by decide) (Nat.le_of_ble_eq_true rfl) (fun v1 B1 L1 q => ?_)
    obtain ⟨rfl, hc2⟩ := q
    first | refine Es_aload_n hC dL_law_507 rfl ?_ | refine Es_aload_nN hC dL_law_507 rfl ?_
    first | refine Es_aload_n hC dL_law_508 rfl ?_ | refine Es_aload_nN hC dL_law_508 rfl ?_
    refine Es_iload_n hC dL_law_509 rfl ?_
    refine Es_iconst (v := 1) hC dL_law_510 (by decide) ?_
    refine Es_iadd hC dL_law_511 ?_
    refine Es_sld dL_law_512 (nI_add i 1) (by omega) hL ?_
    first | refine Es_aload_n hC dL_law_513 rfl ?_ | refine Es_aload_nN hC dL_law_513 rfl ?_
    refine Es_iload_n hC dL_law_514 rfl ?_
    refine Es_iconst (v := 2) hC dL_law_515 (by decide) ?_
    refine Es_iadd hC dL_law_516 ?_
    refine Es_sld dL_law_517 (nI_add i 2) (by omega) hL ?_
    first | refine Es_aload_n hC dL_law_518 rfl ?_ | refine Es_aload_nN hC dL_law_518 rfl ?_
    refine Es_iload_n hC dL_law_519 rfl ?_
    refine Es_iconst (v := 3) hC dL_law_520 (by decide) ?_
    refine Es_iadd hC dL_law_521 ?_
    refine Es_sld dL_law_522 (nI_add i 3) (by omega) hL ?_
    refine Es_if_eq hC 530 dL_law_523 (by decide) (fun hb523 => ?_) (fun hb523 => False.elim (hb523 hz))
    refine Es_iconst (v := 0) hC dL_law_530 (by decide) ?_
    refine Es_callV hC mv_L_62 dL_law_531 hc2 rfl rfl ⟨_, rfl, rfl⟩ rfl rfl (by decide) (Nat.le_of_ble_eq_true rfl) (fun v2 B2 L2 q => ?_)
    obtain ⟨rfl, hR2⟩ := q
    refine Es_icmp_eq hC 1041 dL_law_534 (by decide) (fun hb534 => ?_) (fun hb534 => False.elim (hb534 rfl))
    exact K _ _ _ _ _ _ _ (by omega) (by omega) hR2
  · obtain ⟨v, hc⟩ := s_go (ad := ad) hR (xs (i + 1)) (xs (i + 2)) 1
    first | refine Es_aload_n hC dL_law_480 rfl ?_ | refine Es_aload_nN hC dL_law_480 rfl ?_
    first | refine Es_aload_n hC dL_law_481 rfl ?_ | refine Es_aload_nN hC dL_law_481 rfl ?_
    refine Es_iload_n hC dL_law_482 rfl ?_
    refine Es_iconst (v := 1) hC dL_law_483 (by decide) ?_
    refine Es_iadd hC dL_law_484 ?_
    refine Es_sld dL_law_485 (nI_add i 1) (by omega) hL ?_
    first | refine Es_aload_n hC dL_law_486 rfl ?_ | refine Es_aload_nN hC dL_law_486 rfl ?_
    refine Es_iload_n hC dL_law_487 rfl ?_
    refine Es_iconst (v := 2) hC dL_law_488 (by decide) ?_
    refine Es_iadd hC dL_law_489 ?_
    refine Es_sld dL_law_490 (nI_add i 2) (by omega) hL ?_
    first | refine Es_aload_n hC dL_law_491 rfl ?_ | refine Es_aload_nN hC dL_law_491 rfl ?_
    refine Es_iload_n hC dL_law_492 rfl ?_
    refine Es_iconst (v := 3) hC dL_law_493 (by decide) ?_
    refine Es_iadd hC dL_law_494 ?_
    refine Es_sld dL_law_495 (nI_add i 3) (by omega) hL ?_
    refine Es_if_eq hC 503 dL_law_496 (by decide) (fun hb496 => False.elim (hz hb496)) (fun hb496 => ?_)
    refine Es_iconst (v := 1) hC dL_law_499 (by decide) ?_
    refine Es_goto hC 504 dL_law_500 (by decide) ?_
    refine Es_callV hC mv_L_58 dL_law_504 hc rfl rfl ⟨_, rfl, rfl⟩ rfl rfl (by decide) (Nat.le_of_ble_eq_true rfl) (fun v1 B1 L1 q => ?_)
    obtain ⟨rfl, hc2⟩ := q
    first | refine Es_aload_n hC dL_law_507 rfl ?_ | refine Es_aload_nN hC dL_law_507 rfl ?_
    first | refine Es_aload_n hC dL_law_508 rfl ?_ | refine Es_aload_nN hC dL_law_508 rfl ?_
    refine Es_iload_n hC dL_law_509 rfl ?_
    refine Es_iconst (v := 1) hC dL_law_510 (by decide) ?_
    refine Es_iadd hC dL_law_511 ?_
    refine Es_sld dL_law_512 (nI_add i 1) (by omega) hL ?_
    first | refine Es_aload_n hC dL_law_513 rfl ?_ | refine Es_aload_nN hC dL_law_513 rfl ?_
    refine Es_iload_n hC dL_law_514 rfl ?_
    refine Es_iconst (v := 2) hC dL_law_515 (by decide) ?_
    refine Es_iadd hC dL_law_516 ?_
    refine Es_sld dL_law_517 (nI_add i 2) (by omega) hL ?_
    first | refine Es_aload_n hC dL_law_518 rfl ?_ | refine Es_aload_nN hC dL_law_518 rfl ?_
    refine Es_iload_n hC dL_law_519 rfl ?_
    refine Es_iconst (v := 3) hC dL_law_520 (by decide) ?_
    refine Es_iadd hC dL_law_521 ?_
    refine Es_sld dL_law_522 (nI_add i 3) (by omega) hL ?_
    refine Es_if_eq hC 530 dL_law_523 (by decide) (fun hb523 => False.elim (hz hb523)) (fun hb523 => ?_)
    refine Es_iconst (v := 1) hC dL_law_526 (by decide) ?_
    refine Es_goto hC 531 dL_law_527 (by decide) ?_
    refine Es_callV hC mv_L_62 dL_law_531 hc2 rfl rfl ⟨_, rfl, rfl⟩ rfl rfl (by decide) (Nat.le_of_ble_eq_true rfl) (fun v2 B2 L2 q => ?_)
    obtain ⟨rfl, hR2⟩ := q
    refine Es_icmp_eq hC 1041 dL_law_534 (by decide) (fun hb534 => ?_) (fun hb534 => False.elim (hb534 rfl))
    exact K _ _ _ _ _ _ _ (by omega) (by omega) hR2
set_option maxRecDepth 100000 in
set_option maxHeartbeats 4000000 in
theorem law_why {b L : Nat} {xs : Nat → Int32} {i bc bs : Nat} {ad : sA} {nw nt : Nat} {B : sB} {Ls : sL} (hL : L ≤ 2560) (hi : i + 5 ≤ L) (hb4 : 4 ≤ bc) (hb38 : 38 ≤ bs) (hR : Rel nw nt B Ls) (K : ∀ (ad1 : sA) (nw1 nt1 : Nat) (B1 : sB) (L1 : sL) (bc1 bs1 : Nat), bc - 4 ≤ bc1 → bs - 38 ≤ bs1 → Rel nw1 nt1 B1 L1 → Es (LC b L xs) 4 1041 [some (.ref b), some (.ref (ad1 0 0)), some (.ref (ad1 25 0)), some (.int (nI i))] [] ad1 nw1 nt1 B1 L1 bc1 bs1) : Es (LC b L xs) 4 539 [some (.ref b), some (.ref (ad 0 0)), some (.ref (ad 25 0)), some (.int (nI i))] [] ad nw nt B Ls bc bs := by
  have hC : je_Ok (LC b L xs) RL cL_law 4 2000 := LC_ok
  obtain ⟨v, hc⟩ := (s_why (ad := ad) hR (xs (i + 1)))
  first | refine Es_aload_n hC dL_law_539 rfl ?_ | refine Es_aload_nN hC dL_law_539 rfl ?_
  first | refine Es_aload_n hC dL_law_540 rfl ?_ | refine Es_aload_nN hC dL_law_540 rfl ?_
  refine Es_iload_n hC dL_law_541 rfl ?_
  refine Es_iconst (v := 1) hC dL_law_542 (by decide) ?_
  refine Es_iadd hC dL_law_543 ?_
  refine Es_sld dL_law_544 (nI_add i 1) (by omega) hL ?_
  refine Es_callV hC mv_L_63 dL_law_545 hc rfl rfl ⟨_, rfl, rfl⟩ rfl rfl (by decide) (Nat.le_of_ble_eq_true rfl) (fun v1 B1 L1 q => ?_)
  obtain ⟨rfl, hc2⟩ := q
  first | refine Es_aload_n hC dL_law_548 rfl ?_ | refine Es_aload_nN hC dL_law_548 rfl ?_
  first | refine Es_aload_n hC dL_law_549 rfl ?_ | refine Es_aload_nN hC dL_law_549 rfl ?_
  refine Es_iload_n hC dL_law_550 rfl ?_
  refine Es_iconst (v := 1) hC dL_law_551 (by decide) ?_
  refine Es_iadd hC dL_law_552 ?_
  refine Es_sld dL_law_553 (nI_add i 1) (by omega) hL ?_
  refine Es_callV hC mv_L_66 dL_law_554 hc2 rfl rfl ⟨_, rfl, rfl⟩ rfl rfl (by decide) (Nat.le_of_ble_eq_true rfl) (fun v2 B2 L2 q => ?_)
  obtain ⟨rfl, hR2⟩ := q
  refine Es_icmp_eq hC 1041 dL_law_557 (by decide) (fun hb557 => ?_) (fun hb557 => False.elim (hb557 rfl))
  exact K _ _ _ _ _ _ _ (by omega) (by omega) hR2
set_option maxRecDepth 100000 in
set_option maxHeartbeats 4000000 in
theorem law_far {b L : Nat} {xs : Nat → Int32} {i bc bs : Nat} {ad : sA} {nw nt : Nat} {B : sB} {Ls : sL} (hL : L ≤ 2560) (hi : i + 5 ≤ L) (hb4 : 4 ≤ bc) (hb38 : 38 ≤ bs) (hR : Rel nw nt B Ls) (K : ∀ (ad1 : sA) (nw1 nt1 : Nat) (B1 : sB) (L1 : sL) (bc1 bs1 : Nat), bc - 4 ≤ bc1 → bs - 38 ≤ bs1 → Rel nw1 nt1 B1 L1 → Es (LC b L xs) 4 1041 [some (.ref b), some (.ref (ad1 0 0)), some (.ref (ad1 25 0)), some (.int (nI i))] [] ad1 nw1 nt1 B1 L1 bc1 bs1) : Es (LC b L xs) 4 562 [some (.ref b), some (.ref (ad 0 0)), some (.ref (ad 25 0)), some (.int (nI i))] [] ad nw nt B Ls bc bs := by
  have hC : je_Ok (LC b L xs) RL cL_law 4 2000 := LC_ok
  obtain ⟨v, hc⟩ := (s_far (ad := ad) hR (xs (i + 1)))
  first | refine Es_aload_n hC dL_law_562 rfl ?_ | refine Es_aload_nN hC dL_law_562 rfl ?_
  first | refine Es_aload_n hC dL_law_563 rfl ?_ | refine Es_aload_nN hC dL_law_563 rfl ?_
  refine Es_iload_n hC dL_law_564 rfl ?_
  refine Es_iconst (v := 1) hC dL_law_565 (by decide) ?_
  refine Es_iadd hC dL_law_566 ?_
  refine Es_sld dL_law_567 (nI_add i 1) (by omega) hL ?_
  refine Es_callV hC mv_L_67 dL_law_568 hc rfl rfl ⟨_, rfl, rfl⟩ rfl rfl (by decide) (Nat.le_of_ble_eq_true rfl) (fun v1 B1 L1 q => ?_)
  obtain ⟨rfl, hc2⟩ := q
  first | refine Es_aload_n hC dL_law_571 rfl ?_ | refine Es_aload_nN hC dL_law_571 rfl ?_
  first | refine Es_aload_n hC dL_law_572 rfl ?_ | refine Es_aload_nN hC dL_law_572 rfl ?_
  refine Es_iload_n hC dL_law_573 rfl ?_
  refine Es_iconst (v := 1) hC dL_law_574 (by decide) ?_
  refine Es_iadd hC dL_law_575 ?_
  refine Es_sld dL_law_576 (nI_add i 1) (by omega) hL ?_
  refine Es_callV hC mv_L_70 dL_law_577 hc2 rfl rfl ⟨_, rfl, rfl⟩ rfl rfl (by decide) (Nat.le_of_ble_eq_true rfl) (fun v2 B2 L2 q => ?_)
  obtain ⟨rfl, hR2⟩ := q
  refine Es_icmp_eq hC 1041 dL_law_580 (by decide) (fun hb580 => ?_) (fun hb580 => False.elim (hb580 rfl))
  exact K _ _ _ _ _ _ _ (by omega) (by omega) hR2
set_option maxRecDepth 100000 in
set_option maxHeartbeats 4000000 in
theorem law_best {b L : Nat} {xs : Nat → Int32} {i bc bs : Nat} {ad : sA} {nw nt : Nat} {B : sB} {Ls : sL} (hL : L ≤ 2560) (hi : i + 5 ≤ L) (hb4 : 4 ≤ bc) (hb38 : 38 ≤ bs) (hR : Rel nw nt B Ls) (K : ∀ (ad1 : sA) (nw1 nt1 : Nat) (B1 : sB) (L1 : sL) (bc1 bs1 : Nat), bc - 4 ≤ bc1 → bs - 38 ≤ bs1 → Rel nw1 nt1 B1 L1 → Es (LC b L xs) 4 1041 [some (.ref b), some (.ref (ad1 0 0)), some (.ref (ad1 25 0)), some (.int (nI i))] [] ad1 nw1 nt1 B1 L1 bc1 bs1) : Es (LC b L xs) 4 585 [some (.ref b), some (.ref (ad 0 0)), some (.ref (ad 25 0)), some (.int (nI i))] [] ad nw nt B Ls bc bs := by
  have hC : je_Ok (LC b L xs) RL cL_law 4 2000 := LC_ok
  obtain ⟨v, hc⟩ := (s_best (ad := ad) hR (xs (i + 1)))
  first | refine Es_aload_n hC dL_law_585 rfl ?_ | refine Es_aload_nN hC dL_law_585 rfl ?_
  first | refine Es_aload_n hC dL_law_586 rfl ?_ | refine Es_aload_nN hC dL_law_586 rfl ?_
  refine Es_iload_n hC dL_law_587 rfl ?_
  refine Es_iconst (v := 1) hC dL_law_588 (by decide) ?_
  refine Es_iadd hC dL_law_589 ?_
  refine Es_sld dL_law_590 (nI_add i 1) (by omega) hL ?_
  refine Es_callV hC mv_L_71 dL_law_591 hc rfl rfl ⟨_, rfl, rfl⟩ rfl rfl (by decide) (Nat.le_of_ble_eq_true rfl) (fun v1 B1 L1 q => ?_)
  obtain ⟨rfl, hc2⟩ := q
  first | refine Es_aload_n hC dL_law_594 rfl ?_ | refine Es_aload_nN hC dL_law_594 rfl ?_
  first | refine Es_aload_n hC dL_law_595 rfl ?_ | refine Es_aload_nN hC dL_law_595 rfl ?_
  refine Es_iload_n hC dL_law_596 rfl ?_
  refine Es_iconst (v := 1) hC dL_law_597 (by decide) ?_
  refine Es_iadd hC dL_law_598 ?_
  refine Es_sld dL_law_599 (nI_add i 1) (by omega) hL ?_
  refine Es_callV hC mv_L_74 dL_law_600 hc2 rfl rfl ⟨_, rfl, rfl⟩ rfl rfl (by decide) (Nat.le_of_ble_eq_true rfl) (fun v2 B2 L2 q => ?_)
  obtain ⟨rfl, hR2⟩ := q
  refine Es_icmp_eq hC 1041 dL_law_603 (by decide) (fun hb603 => ?_) (fun hb603 => False.elim (hb603 rfl))
  exact K _ _ _ _ _ _ _ (by omega) (by omega) hR2
set_option maxRecDepth 100000 in
set_option maxHeartbeats 4000000 in
theorem law_turn {b L : Nat} {xs : Nat → Int32} {i bc bs : Nat} {ad : sA} {nw nt : Nat} {B : sB} {Ls : sL} (hL : L ≤ 2560) (hi : i + 5 ≤ L) (hb4 : 4 ≤ bc) (hb38 : 38 ≤ bs) (hR : Rel nw nt B Ls) (K : ∀ (ad1 : sA) (nw1 nt1 : Nat) (B1 : sB) (L1 : sL) (bc1 bs1 : Nat), bc - 4 ≤ bc1 → bs - 38 ≤ bs1 → Rel nw1 nt1 B1 L1 → Es (LC b L xs) 4 1041 [some (.ref b), some (.ref (ad1 0 0)), some (.ref (ad1 25 0)), some (.int (nI i))] [] ad1 nw1 nt1 B1 L1 bc1 bs1) : Es (LC b L xs) 4 608 [some (.ref b), some (.ref (ad 0 0)), some (.ref (ad 25 0)), some (.int (nI i))] [] ad nw nt B Ls bc bs := by
  have hC : je_Ok (LC b L xs) RL cL_law 4 2000 := LC_ok
  obtain ⟨v, hc⟩ := (s_turn (ad := ad) hR (xs (i + 1)))
  first | refine Es_aload_n hC dL_law_608 rfl ?_ | refine Es_aload_nN hC dL_law_608 rfl ?_
  first | refine Es_aload_n hC dL_law_609 rfl ?_ | refine Es_aload_nN hC dL_law_609 rfl ?_
  refine Es_iload_n hC dL_law_610 rfl ?_
  refine Es_iconst (v := 1) hC dL_law_611 (by decide) ?_
  refine Es_iadd hC dL_law_612 ?_
  refine Es_sld dL_law_613 (nI_add i 1) (by omega) hL ?_
  refine Es_callV hC mv_L_75 dL_law_614 hc rfl rfl ⟨_, rfl, rfl⟩ rfl rfl (by decide) (Nat.le_of_ble_eq_true rfl) (fun v1 B1 L1 q => ?_)
  obtain ⟨rfl, hc2⟩ := q
  first | refine Es_aload_n hC dL_law_617 rfl ?_ | refine Es_aload_nN hC dL_law_617 rfl ?_
  first | refine Es_aload_n hC dL_law_618 rfl ?_ | refine Es_aload_nN hC dL_law_618 rfl ?_
  refine Es_iload_n hC dL_law_619 rfl ?_
  refine Es_iconst (v := 1) hC dL_law_620 (by decide) ?_
  refine Es_iadd hC dL_law_621 ?_
  refine Es_sld dL_law_622 (nI_add i 1) (by omega) hL ?_
  refine Es_callV hC mv_L_78 dL_law_623 hc2 rfl rfl ⟨_, rfl, rfl⟩ rfl rfl (by decide) (Nat.le_of_ble_eq_true rfl) (fun v2 B2 L2 q => ?_)
  obtain ⟨rfl, hR2⟩ := q
  refine Es_icmp_eq hC 1041 dL_law_626 (by decide) (fun hb626 => ?_) (fun hb626 => False.elim (hb626 rfl))
  exact K _ _ _ _ _ _ _ (by omega) (by omega) hR2
set_option maxRecDepth 100000 in
set_option maxHeartbeats 4000000 in
theorem law_wear {b L : Nat} {xs : Nat → Int32} {i bc bs : Nat} {ad : sA} {nw nt : Nat} {B : sB} {Ls : sL} (hL : L ≤ 2560) (hi : i + 5 ≤ L) (hb4 : 4 ≤ bc) (hb38 : 38 ≤ bs) (hR : Rel nw nt B Ls) (K : ∀ (ad1 : sA) (nw1 nt1 : Nat) (B1 : sB) (L1 : sL) (bc1 bs1 : Nat), bc - 4 ≤ bc1 → bs - 38 ≤ bs1 → Rel nw1 nt1 B1 L1 → Es (LC b L xs) 4 1041 [some (.ref b), some (.ref (ad1 0 0)), some (.ref (ad1 25 0)), some (.int (nI i))] [] ad1 nw1 nt1 B1 L1 bc1 bs1) : Es (LC b L xs) 4 631 [some (.ref b), some (.ref (ad 0 0)), some (.ref (ad 25 0)), some (.int (nI i))] [] ad nw nt B Ls bc bs := by
  have hC : je_Ok (LC b L xs) RL cL_law 4 2000 := LC_ok
  obtain ⟨v, hc⟩ := (s_wear (ad := ad) hR (xs (i + 1)) (xs (i + 2))).gen
  first | refine Es_aload_n hC dL_law_631 rfl ?_ | refine Es_aload_nN hC dL_law_631 rfl ?_
  first | refine Es_aload_n hC dL_law_632 rfl ?_ | refine Es_aload_nN hC dL_law_632 rfl ?_
  refine Es_iload_n hC dL_law_633 rfl ?_
  refine Es_iconst (v := 1) hC dL_law_634 (by decide) ?_
  refine Es_iadd hC dL_law_635 ?_
  refine Es_sld dL_law_636 (nI_add i 1) (by omega) hL ?_
  first | refine Es_aload_n hC dL_law_637 rfl ?_ | refine Es_aload_nN hC dL_law_637 rfl ?_
  refine Es_iload_n hC dL_law_638 rfl ?_
  refine Es_iconst (v := 2) hC dL_law_639 (by decide) ?_
  refine Es_iadd hC dL_law_640 ?_
  refine Es_sld dL_law_641 (nI_add i 2) (by omega) hL ?_
  refine Es_callV hC mv_L_79 dL_law_642 hc rfl rfl ⟨_, rfl, rfl⟩ rfl rfl (by decide) (Nat.le_of_ble_eq_true rfl) (fun v1 B1 L1 q => ?_)
  obtain ⟨rfl, hc2⟩ := q
  first | refine Es_aload_n hC dL_law_645 rfl ?_ | refine Es_aload_nN hC dL_law_645 rfl ?_
  first | refine Es_aload_n hC dL_law_646 rfl ?_ | refine Es_aload_nN hC dL_law_646 rfl ?_
  refine Es_iload_n hC dL_law_647 rfl ?_
  refine Es_iconst (v := 1) hC dL_law_648 (by decide) ?_
  refine Es_iadd hC dL_law_649 ?_
  refine Es_sld dL_law_650 (nI_add i 1) (by omega) hL ?_
  first | refine Es_aload_n hC dL_law_651 rfl ?_ | refine Es_aload_nN hC dL_law_651 rfl ?_
  refine Es_iload_n hC dL_law_652 rfl ?_
  refine Es_iconst (v := 2) hC dL_law_653 (by decide) ?_
  refine Es_iadd hC dL_law_654 ?_
  refine Es_sld dL_law_655 (nI_add i 2) (by omega) hL ?_
  refine Es_callV hC mv_L_83 dL_law_656 hc2 rfl rfl ⟨_, rfl, rfl⟩ rfl rfl (by decide) (Nat.le_of_ble_eq_true rfl) (fun v2 B2 L2 q => ?_)
  obtain ⟨rfl, hR2⟩ := q
  refine Es_lcmp hC dL_law_659 ?_
  refine Es_if_eq hC 1041 dL_law_660 (by decide) (fun hb660 => ?_) (fun hb660 => False.elim (hb660 (lg_cmp_self _)))
  exact K _ _ _ _ _ _ _ (by omega) (by omega) hR2
set_option maxRecDepth 100000 in
set_option maxHeartbeats 4000000 in
theorem law_depth {b L : Nat} {xs : Nat → Int32} {i bc bs : Nat} {ad : sA} {nw nt : Nat} {B : sB} {Ls : sL} (hL : L ≤ 2560) (hi : i + 5 ≤ L) (hb4 : 4 ≤ bc) (hb38 : 38 ≤ bs) (hR : Rel nw nt B Ls) (K : ∀ (ad1 : sA) (nw1 nt1 : Nat) (B1 : sB) (L1 : sL) (bc1 bs1 : Nat), bc - 4 ≤ bc1 → bs - 38 ≤ bs1 → Rel nw1 nt1 B1 L1 → Es (LC b L xs) 4 1041 [some (.ref b), some (.ref (ad1 0 0)), some (.ref (ad1 25 0)), some (.int (nI i))] [] ad1 nw1 nt1 B1 L1 bc1 bs1) : Es (LC b L xs) 4 665 [some (.ref b), some (.ref (ad 0 0)), some (.ref (ad 25 0)), some (.int (nI i))] [] ad nw nt B Ls bc bs := by
  have hC : je_Ok (LC b L xs) RL cL_law 4 2000 := LC_ok
  obtain ⟨v, hc⟩ := (s_depth (ad := ad) hR (xs (i + 1)) (xs (i + 2))).gen
  first | refine Es_aload_n hC dL_law_665 rfl ?_ | refine Es_aload_nN hC dL_law_665 rfl ?_
  first | refine Es_aload_n hC dL_law_666 rfl ?_ | refine Es_aload_nN hC dL_law_666 rfl ?_
  refine Es_iload_n hC dL_law_667 rfl ?_
  refine Es_iconst (v := 1) hC dL_law_668 (by decide) ?_
  refine Es_iadd hC dL_law_669 ?_
  refine Es_sld dL_law_670 (nI_add i 1) (by omega) hL ?_
  first | refine Es_aload_n hC dL_law_671 rfl ?_ | refine Es_aload_nN hC dL_law_671 rfl ?_
  refine Es_iload_n hC dL_law_672 rfl ?_
  refine Es_iconst (v := 2) hC dL_law_673 (by decide) ?_
  refine Es_iadd hC dL_law_674 ?_
  refine Es_sld dL_law_675 (nI_add i 2) (by omega) hL ?_
  refine Es_callV hC mv_L_84 dL_law_676 hc rfl rfl ⟨_, rfl, rfl⟩ rfl rfl (by decide) (Nat.le_of_ble_eq_true rfl) (fun v1 B1 L1 q => ?_)
  obtain ⟨rfl, hc2⟩ := q
  first | refine Es_aload_n hC dL_law_679 rfl ?_ | refine Es_aload_nN hC dL_law_679 rfl ?_
  first | refine Es_aload_n hC dL_law_680 rfl ?_ | refine Es_aload_nN hC dL_law_680 rfl ?_
  refine Es_iload_n hC dL_law_681 rfl ?_
  refine Es_iconst (v := 1) hC dL_law_682 (by decide) ?_
  refine Es_iadd hC dL_law_683 ?_
  refine Es_sld dL_law_684 (nI_add i 1) (by omega) hL ?_
  first | refine Es_aload_n hC dL_law_685 rfl ?_ | refine Es_aload_nN hC dL_law_685 rfl ?_
  refine Es_iload_n hC dL_law_686 rfl ?_
  refine Es_iconst (v := 2) hC dL_law_687 (by decide) ?_
  refine Es_iadd hC dL_law_688 ?_
  refine Es_sld dL_law_689 (nI_add i 2) (by omega) hL ?_
  refine Es_callV hC mv_L_87 dL_law_690 hc2 rfl rfl ⟨_, rfl, rfl⟩ rfl rfl (by decide) (Nat.le_of_ble_eq_true rfl) (fun v2 B2 L2 q => ?_)
  obtain ⟨rfl, hR2⟩ := q
  refine Es_icmp_eq hC 1041 dL_law_693 (by decide) (fun hb693 => ?_) (fun hb693 => False.elim (hb693 rfl))
  exact K _ _ _ _ _ _ _ (by omega) (by omega) hR2
set_option maxRecDepth 100000 in
set_option maxHeartbeats 4000000 in
theorem law_end {b L : Nat} {xs : Nat → Int32} {i bc bs : Nat} {ad : sA} {nw nt : Nat} {B : sB} {Ls : sL} (hL : L ≤ 2560) (hi : i + 5 ≤ L) (hb4 : 4 ≤ bc) (hb38 : 38 ≤ bs) (hR : Rel nw nt B Ls) (K : ∀ (ad1 : sA) (nw1 nt1 : Nat) (B1 : sB) (L1 : sL) (bc1 bs1 : Nat), bc - 4 ≤ bc1 → bs - 38 ≤ bs1 → Rel nw1 nt1 B1 L1 → Es (LC b L xs) 4 1041 [some (.ref b), some (.ref (ad1 0 0)), some (.ref (ad1 25 0)), some (.int (nI i))] [] ad1 nw1 nt1 B1 L1 bc1 bs1) : Es (LC b L xs) 4 698 [some (.ref b), some (.ref (ad 0 0)), some (.ref (ad 25 0)), some (.int (nI i))] [] ad nw nt B Ls bc bs := by
  have hC : je_Ok (LC b L xs) RL cL_law 4 2000 := LC_ok
  obtain ⟨v, hc⟩ := (s_end (ad := ad) hR (xs (i + 1)) (xs (i + 2))).gen
  first | refine Es_aload_n hC dL_law_698 rfl ?_ | refine Es_aload_nN hC dL_law_698 rfl ?_
  first | refine Es_aload_n hC dL_law_699 rfl ?_ | refine Es_aload_nN hC dL_law_699 rfl ?_
  refine Es_iload_n hC dL_law_700 rfl ?_
  refine Es_iconst (v := 1) hC dL_law_701 (by decide) ?_
  refine Es_iadd hC dL_law_702 ?_
  refine Es_sld dL_law_703 (nI_add i 1) (by omega) hL ?_
  first | refine Es_aload_n hC dL_law_704 rfl ?_ | refine Es_aload_nN hC dL_law_704 rfl ?_
  refine Es_iload_n hC dL_law_705 rfl ?_
  refine Es_iconst (v := 2) hC dL_law_706 (by decide) ?_
  refine Es_iadd hC dL_law_707 ?_
  refine Es_sld dL_law_708 (nI_add i 2) (by omega) hL ?_
  refine Es_callV hC mv_L_88 dL_law_709 hc rfl rfl ⟨_, rfl, rfl⟩ rfl rfl (by decide) (Nat.le_of_ble_eq_true rfl) (fun v1 B1 L1 q => ?_)
  obtain ⟨rfl, hc2⟩ := q
  first | refine Es_aload_n hC dL_law_712 rfl ?_ | refine Es_aload_nN hC dL_law_712 rfl ?_
  first | refine Es_aload_n hC dL_law_713 rfl ?_ | refine Es_aload_nN hC dL_law_713 rfl ?_
  refine Es_iload_n hC dL_law_714 rfl ?_
  refine Es_iconst (v := 1) hC dL_law_715 (by decide) ?_
  refine Es_iadd hC dL_law_716 ?_
  refine Es_sld dL_law_717 (nI_add i 1) (by omega) hL ?_
  first | refine Es_aload_n hC dL_law_718 rfl ?_ | refine Es_aload_nN hC dL_law_718 rfl ?_
  refine Es_iload_n hC dL_law_719 rfl ?_
  refine Es_iconst (v := 2) hC dL_law_720 (by decide) ?_
  refine Es_iadd hC dL_law_721 ?_
  refine Es_sld dL_law_722 (nI_add i 2) (by omega) hL ?_
  refine Es_callV hC mv_L_91 dL_law_723 hc2 rfl rfl ⟨_, rfl, rfl⟩ rfl rfl (by decide) (Nat.le_of_ble_eq_true rfl) (fun v2 B2 L2 q => ?_)
  obtain ⟨rfl, hR2⟩ := q
  refine Es_icmp_eq hC 1041 dL_law_726 (by decide) (fun hb726 => ?_) (fun hb726 => False.elim (hb726 rfl))
  exact K _ _ _ _ _ _ _ (by omega) (by omega) hR2
set_option maxRecDepth 100000 in
set_option maxHeartbeats 4000000 in
theorem law_send {b L : Nat} {xs : Nat → Int32} {i bc bs : Nat} {ad : sA} {nw nt : Nat} {B : sB} {Ls : sL} (hL : L ≤ 2560) (hi : i + 5 ≤ L) (hb4 : 4 ≤ bc) (hb38 : 38 ≤ bs) (hR : Rel nw nt B Ls) (K : ∀ (ad1 : sA) (nw1 nt1 : Nat) (B1 : sB) (L1 : sL) (bc1 bs1 : Nat), bc - 4 ≤ bc1 → bs - 38 ≤ bs1 → Rel nw1 nt1 B1 L1 → Es (LC b L xs) 4 1041 [some (.ref b), some (.ref (ad1 0 0)), some (.ref (ad1 25 0)), some (.int (nI i))] [] ad1 nw1 nt1 B1 L1 bc1 bs1) : Es (LC b L xs) 4 731 [some (.ref b), some (.ref (ad 0 0)), some (.ref (ad 25 0)), some (.int (nI i))] [] ad nw nt B Ls bc bs := by
  have hC : je_Ok (LC b L xs) RL cL_law 4 2000 := LC_ok
  obtain ⟨v, hc⟩ := (s_send (ad := ad) hR (xs (i + 1))).gen
  first | refine Es_aload_n hC dL_law_731 rfl ?_ | refine Es_aload_nN hC dL_law_731 rfl ?_
  first | refine Es_aload_n hC dL_law_732 rfl ?_ | refine Es_aload_nN hC dL_law_732 rfl ?_
  refine Es_iload_n hC dL_law_733 rfl ?_
  refine Es_iconst (v := 1) hC dL_law_734 (by decide) ?_
  refine Es_iadd hC dL_law_735 ?_
  refine Es_sld dL_law_736 (nI_add i 1) (by omega) hL ?_
  refine Es_callV hC mv_L_92 dL_law_737 hc rfl rfl ⟨_, rfl, rfl⟩ rfl rfl (by decide) (Nat.le_of_ble_eq_true rfl) (fun v1 B1 L1 q => ?_)
  obtain ⟨rfl, hc2⟩ := q
  first | refine Es_aload_n hC dL_law_740 rfl ?_ | refine Es_aload_nN hC dL_law_740 rfl ?_
  first | refine Es_aload_n hC dL_law_741 rfl ?_ | refine Es_aload_nN hC dL_law_741 rfl ?_
  refine Es_iload_n hC dL_law_742 rfl ?_
  refine Es_iconst (v := 1) hC dL_law_743 (by decide) ?_
  refine Es_iadd hC dL_law_744 ?_
  refine Es_sld dL_law_745 (nI_add i 1) (by omega) hL ?_
  refine Es_callV hC mv_L_95 dL_law_746 hc2 rfl rfl ⟨_, rfl, rfl⟩ rfl rfl (by decide) (Nat.le_of_ble_eq_true rfl) (fun v2 B2 L2 q => ?_)
  obtain ⟨rfl, hR2⟩ := q
  refine Es_icmp_eq hC 1041 dL_law_749 (by decide) (fun hb749 => ?_) (fun hb749 => False.elim (hb749 rfl))
  exact K _ _ _ _ _ _ _ (by omega) (by omega) hR2
set_option maxRecDepth 100000 in
set_option maxHeartbeats 4000000 in
theorem law_mend {b L : Nat} {xs : Nat → Int32} {i bc bs : Nat} {ad : sA} {nw nt : Nat} {B : sB} {Ls : sL} (hL : L ≤ 2560) (hi : i + 5 ≤ L) (hb4 : 4 ≤ bc) (hb38 : 38 ≤ bs) (hR : Rel nw nt B Ls) (K : ∀ (ad1 : sA) (nw1 nt1 : Nat) (B1 : sB) (L1 : sL) (bc1 bs1 : Nat), bc - 4 ≤ bc1 → bs - 38 ≤ bs1 → Rel nw1 nt1 B1 L1 → Es (LC b L xs) 4 1041 [some (.ref b), some (.ref (ad1 0 0)), some (.ref (ad1 25 0)), some (.int (nI i))] [] ad1 nw1 nt1 B1 L1 bc1 bs1) : Es (LC b L xs) 4 754 [some (.ref b), some (.ref (ad 0 0)), some (.ref (ad 25 0)), some (.int (nI i))] [] ad nw nt B Ls bc bs := by
  have hC : je_Ok (LC b L xs) RL cL_law 4 2000 := LC_ok
  obtain ⟨v, hc⟩ := (s_mend (ad := ad) hR (xs (i + 1))).gen
  first | refine Es_aload_n hC dL_law_754 rfl ?_ | refine Es_aload_nN hC dL_law_754 rfl ?_
  first | refine Es_aload_n hC dL_law_755 rfl ?_ | refine Es_aload_nN hC dL_law_755 rfl ?_
  refine Es_iload_n hC dL_law_756 rfl ?_
  refine Es_iconst (v := 1) hC dL_law_757 (by decide) ?_
  refine Es_iadd hC dL_law_758 ?_
  refine Es_sld dL_law_759 (nI_add i 1) (by omega) hL ?_
  refine Es_callV hC mv_L_96 dL_law_760 hc rfl rfl ⟨_, rfl, rfl⟩ rfl rfl (by decide) (Nat.le_of_ble_eq_true rfl) (fun v1 B1 L1 q => ?_)
  obtain ⟨rfl, hc2⟩ := q
  first | refine Es_aload_n hC dL_law_763 rfl ?_ | refine Es_aload_nN hC dL_law_763 rfl ?_
  first | refine Es_aload_n hC dL_law_764 rfl ?_ | refine Es_aload_nN hC dL_law_764 rfl ?_
  refine Es_iload_n hC dL_law_765 rfl ?_
  refine Es_iconst (v := 1) hC dL_law_766 (by decide) ?_
  refine Es_iadd hC dL_law_767 ?_
  refine Es_sld dL_law_768 (nI_add i 1) (by omega) hL ?_
  refine Es_callV hC mv_L_99 dL_law_769 hc2 rfl rfl ⟨_, rfl, rfl⟩ rfl rfl (by decide) (Nat.le_of_ble_eq_true rfl) (fun v2 B2 L2 q => ?_)
  obtain ⟨rfl, hR2⟩ := q
  refine Es_icmp_eq hC 1041 dL_law_772 (by decide) (fun hb772 => ?_) (fun hb772 => False.elim (hb772 rfl))
  exact K _ _ _ _ _ _ _ (by omega) (by omega) hR2
set_option maxRecDepth 100000 in
set_option maxHeartbeats 4000000 in
theorem law_cast {b L : Nat} {xs : Nat → Int32} {i bc bs : Nat} {ad : sA} {nw nt : Nat} {B : sB} {Ls : sL} (hL : L ≤ 2560) (hi : i + 5 ≤ L) (hb4 : 4 ≤ bc) (hb38 : 38 ≤ bs) (hR : Rel nw nt B Ls) (K : ∀ (ad1 : sA) (nw1 nt1 : Nat) (B1 : sB) (L1 : sL) (bc1 bs1 : Nat), bc - 4 ≤ bc1 → bs - 38 ≤ bs1 → Rel nw1 nt1 B1 L1 → Es (LC b L xs) 4 1041 [some (.ref b), some (.ref (ad1 0 0)), some (.ref (ad1 25 0)), some (.int (nI i))] [] ad1 nw1 nt1 B1 L1 bc1 bs1) : Es (LC b L xs) 4 777 [some (.ref b), some (.ref (ad 0 0)), some (.ref (ad 25 0)), some (.int (nI i))] [] ad nw nt B Ls bc bs := by
  have hC : je_Ok (LC b L xs) RL cL_law 4 2000 := LC_ok
  obtain ⟨v, hc⟩ := (s_cast (ad := ad) hR (xs (i + 1))).gen
  first | refine Es_aload_n hC dL_law_777 rfl ?_ | refine Es_aload_nN hC dL_law_777 rfl ?_
  first | refine Es_aload_n hC dL_law_778 rfl ?_ | refine Es_aload_nN hC dL_law_778 rfl ?_
  refine Es_iload_n hC dL_law_779 rfl ?_
  refine Es_iconst (v := 1) hC dL_law_780 (by decide) ?_
  refine Es_iadd hC dL_law_781 ?_
  refine Es_sld dL_law_782 (nI_add i 1) (by omega) hL ?_
  refine Es_callV hC mv_L_100 dL_law_783 hc rfl rfl ⟨_, rfl, rfl⟩ rfl rfl (by decide) (Nat.le_of_ble_eq_true rfl) (fun v1 B1 L1 q => ?_)
  obtain ⟨rfl, hc2⟩ := q
  first | refine Es_aload_n hC dL_law_786 rfl ?_ | refine Es_aload_nN hC dL_law_786 rfl ?_
  first | refine Es_aload_n hC dL_law_787 rfl ?_ | refine Es_aload_nN hC dL_law_787 rfl ?_
  refine Es_iload_n hC dL_law_788 rfl ?_
  refine Es_iconst (v := 1) hC dL_law_789 (by decide) ?_
  refine Es_iadd hC dL_law_790 ?_
  refine Es_sld dL_law_791 (nI_add i 1) (by omega) hL ?_
  refine Es_callV hC mv_L_103 dL_law_792 hc2 rfl rfl ⟨_, rfl, rfl⟩ rfl rfl (by decide) (Nat.le_of_ble_eq_true rfl) (fun v2 B2 L2 q => ?_)
  obtain ⟨rfl, hR2⟩ := q
  refine Es_icmp_eq hC 1041 dL_law_795 (by decide) (fun hb795 => ?_) (fun hb795 => False.elim (hb795 rfl))
  exact K _ _ _ _ _ _ _ (by omega) (by omega) hR2
set_option maxRecDepth 100000 in
set_option maxHeartbeats 4000000 in
theorem law_days {b L : Nat} {xs : Nat → Int32} {i bc bs : Nat} {ad : sA} {nw nt : Nat} {B : sB} {Ls : sL} (hL : L ≤ 2560) (hi : i + 5 ≤ L) (hb4 : 4 ≤ bc) (hb38 : 38 ≤ bs) (hR : Rel nw nt B Ls) (K : ∀ (ad1 : sA) (nw1 nt1 : Nat) (B1 : sB) (L1 : sL) (bc1 bs1 : Nat), bc - 4 ≤ bc1 → bs - 38 ≤ bs1 → Rel nw1 nt1 B1 L1 → Es (LC b L xs) 4 1041 [some (.ref b), some (.ref (ad1 0 0)), some (.ref (ad1 25 0)), some (.int (nI i))] [] ad1 nw1 nt1 B1 L1 bc1 bs1) : Es (LC b L xs) 4 800 [some (.ref b), some (.ref (ad 0 0)), some (.ref (ad 25 0)), some (.int (nI i))] [] ad nw nt B Ls bc bs := by
  have hC : je_Ok (LC b L xs) RL cL_law 4 2000 := LC_ok
  obtain ⟨v, hc⟩ := (s_days (ad := ad) hR (xs (i + 1)))
  first | refine Es_aload_n hC dL_law_800 rfl ?_ | refine Es_aload_nN hC dL_law_800 rfl ?_
  first | refine Es_aload_n hC dL_law_801 rfl ?_ | refine Es_aload_nN hC dL_law_801 rfl ?_
  refine Es_iload_n hC dL_law_802 rfl ?_
  refine Es_iconst (v := 1) hC dL_law_803 (by decide) ?_
  refine Es_iadd hC dL_law_804 ?_
  refine Es_sld dL_law_805 (nI_add i 1) (by omega) hL ?_
  refine Es_callV hC mv_L_104 dL_law_806 hc rfl rfl ⟨_, rfl, rfl⟩ rfl rfl (by decide) (Nat.le_of_ble_eq_true rfl) (fun v1 B1 L1 q => ?_)
  obtain ⟨rfl, hc2⟩ := q
  first | refine Es_aload_n hC dL_law_809 rfl ?_ | refine Es_aload_nN hC dL_law_809 rfl ?_
  first | refine Es_aload_n hC dL_law_810 rfl ?_ | refine Es_aload_nN hC dL_law_810 rfl ?_
  refine Es_iload_n hC dL_law_811 rfl ?_
  refine Es_iconst (v := 1) hC dL_law_812 (by decide) ?_
  refine Es_iadd hC dL_law_813 ?_
  refine Es_sld dL_law_814 (nI_add i 1) (by omega) hL ?_
  refine Es_callV hC mv_L_107 dL_law_815 hc2 rfl rfl ⟨_, rfl, rfl⟩ rfl rfl (by decide) (Nat.le_of_ble_eq_true rfl) (fun v2 B2 L2 q => ?_)
  obtain ⟨rfl, hR2⟩ := q
  refine Es_icmp_eq hC 1041 dL_law_818 (by decide) (fun hb818 => ?_) (fun hb818 => False.elim (hb818 rfl))
  exact K _ _ _ _ _ _ _ (by omega) (by omega) hR2
set_option maxRecDepth 100000 in
set_option maxHeartbeats 4000000 in
theorem law_few {b L : Nat} {xs : Nat → Int32} {i bc bs : Nat} {ad : sA} {nw nt : Nat} {B : sB} {Ls : sL} (hL : L ≤ 2560) (hi : i + 5 ≤ L) (hb4 : 4 ≤ bc) (hb38 : 38 ≤ bs) (hR : Rel nw nt B Ls) (K : ∀ (ad1 : sA) (nw1 nt1 : Nat) (B1 : sB) (L1 : sL) (bc1 bs1 : Nat), bc - 4 ≤ bc1 → bs - 38 ≤ bs1 → Rel nw1 nt1 B1 L1 → Es (LC b L xs) 4 1041 [some (.ref b), some (.ref (ad1 0 0)), some (.ref (ad1 25 0)), some (.int (nI i))] [] ad1 nw1 nt1 B1 L1 bc1 bs1) : Es (LC b L xs) 4 823 [some (.ref b), some (.ref (ad 0 0)), some (.ref (ad 25 0)), some (.int (nI i))] [] ad nw nt B Ls bc bs := by
  have hC : je_Ok (LC b L xs) RL cL_law 4 2000 := LC_ok
  obtain ⟨v, hc⟩ := (s_few (ad := ad) hR (xs (i + 1)) (xs (i + 2)) (xs (i + 3)))
  first | refine Es_aload_n hC dL_law_823 rfl ?_ | refine Es_aload_nN hC dL_law_823 rfl ?_
  first | refine Es_aload_n hC dL_law_824 rfl ?_ | refine Es_aload_nN hC dL_law_824 rfl ?_
  refine Es_iload_n hC dL_law_825 rfl ?_
  refine Es_iconst (v := 1) hC dL_law_826 (by decide) ?_
  refine Es_iadd hC dL_law_827 ?_
  refine Es_sld dL_law_828 (nI_add i 1) (by omega) hL ?_
  first | refine Es_aload_n hC dL_law_829 rfl ?_ | refine Es_aload_nN hC dL_law_829 rfl ?_
  refine Es_iload_n hC dL_law_830 rfl ?_
  refine Es_iconst (v := 2) hC dL_law_831 (by decide) ?_
  refine Es_iadd hC dL_law_832 ?_
  refine Es_sld dL_law_833 (nI_add i 2) (by omega) hL ?_
  first | refine Es_aload_n hC dL_law_834 rfl ?_ | refine Es_aload_nN hC dL_law_834 rfl ?_
  refine Es_iload_n hC dL_law_835 rfl ?_
  refine Es_iconst (v := 3) hC dL_law_836 (by decide) ?_
  refine Es_iadd hC dL_law_837 ?_
  refine Es_sld dL_law_838 (nI_add i 3) (by omega) hL ?_
  refine Es_callV hC mv_L_108 dL_law_839 hc rfl rfl ⟨_, rfl, rfl⟩ rfl rfl (by decide) (Nat.le_of_ble_eq_true rfl) (fun v1 B1 L1 q => ?_)
  obtain ⟨rfl, hc2⟩ := q
  first | refine Es_aload_n hC dL_law_842 rfl ?_ | refine Es_aload_nN hC dL_law_842 rfl ?_
  first | refine Es_aload_n hC dL_law_843 rfl ?_ | refine Es_aload_nN hC dL_law_843 rfl ?_
  refine Es_iload_n hC dL_law_844 rfl ?_
  refine Es_iconst (v := 1) hC dL_law_845 (by decide) ?_
  refine Es_iadd hC dL_law_846 ?_
  refine Es_sld dL_law_847 (nI_add i 1) (by omega) hL ?_
  first | refine Es_aload_n hC dL_law_848 rfl ?_ | refine Es_aload_nN hC dL_law_848 rfl ?_
  refine Es_iload_n hC dL_law_849 rfl ?_
  refine Es_iconst (v := 2) hC dL_law_850 (by decide) ?_
  refine Es_iadd hC dL_law_851 ?_
  refine Es_sld dL_law_852 (nI_add i 2) (by omega) hL ?_
  first | refine Es_aload_n hC dL_law_853 rfl ?_ | refine Es_aload_nN hC dL_law_853 rfl ?_
  refine Es_iload_n hC dL_law_854 rfl ?_
  refine Es_iconst (v := 3) hC dL_law_855 (by decide) ?_
  refine Es_iadd hC dL_law_856 ?_
  refine Es_sld dL_law_857 (nI_add i 3) (by omega) hL ?_
  refine Es_callV hC mv_L_111 dL_law_858 hc2 rfl rfl ⟨_, rfl, rfl⟩ rfl rfl (by decide) (Nat.le_of_ble_eq_true rfl) (fun v2 B2 L2 q => ?_)
  obtain ⟨rfl, hR2⟩ := q
  refine Es_icmp_eq hC 1041 dL_law_861 (by decide) (fun hb861 => ?_) (fun hb861 => False.elim (hb861 rfl))
  exact K _ _ _ _ _ _ _ (by omega) (by omega) hR2
set_option maxRecDepth 100000 in
set_option maxHeartbeats 4000000 in
theorem law_asOf {b L : Nat} {xs : Nat → Int32} {i bc bs : Nat} {ad : sA} {nw nt : Nat} {B : sB} {Ls : sL} (hL : L ≤ 2560) (hi : i + 5 ≤ L) (hb4 : 4 ≤ bc) (hb38 : 38 ≤ bs) (hR : Rel nw nt B Ls) (K : ∀ (ad1 : sA) (nw1 nt1 : Nat) (B1 : sB) (L1 : sL) (bc1 bs1 : Nat), bc - 4 ≤ bc1 → bs - 38 ≤ bs1 → Rel nw1 nt1 B1 L1 → Es (LC b L xs) 4 1041 [some (.ref b), some (.ref (ad1 0 0)), some (.ref (ad1 25 0)), some (.int (nI i))] [] ad1 nw1 nt1 B1 L1 bc1 bs1) : Es (LC b L xs) 4 866 [some (.ref b), some (.ref (ad 0 0)), some (.ref (ad 25 0)), some (.int (nI i))] [] ad nw nt B Ls bc bs := by
  have hC : je_Ok (LC b L xs) RL cL_law 4 2000 := LC_ok
  obtain ⟨v, hc⟩ := (s_asOf (ad := ad) hR (xs (i + 1)) (xs (i + 2))).gen
  first | refine Es_aload_n hC dL_law_866 rfl ?_ | refine Es_aload_nN hC dL_law_866 rfl ?_
  first | refine Es_aload_n hC dL_law_867 rfl ?_ | refine Es_aload_nN hC dL_law_867 rfl ?_
  refine Es_iload_n hC dL_law_868 rfl ?_
  refine Es_iconst (v := 1) hC dL_law_869 (by decide) ?_
  refine Es_iadd hC dL_law_870 ?_
  refine Es_sld dL_law_871 (nI_add i 1) (by omega) hL ?_
  first | refine Es_aload_n hC dL_law_872 rfl ?_ | refine Es_aload_nN hC dL_law_872 rfl ?_
  refine Es_iload_n hC dL_law_873 rfl ?_
  refine Es_iconst (v := 2) hC dL_law_874 (by decide) ?_
  refine Es_iadd hC dL_law_875 ?_
  refine Es_sld dL_law_876 (nI_add i 2) (by omega) hL ?_
  refine Es_callV hC mv_L_112 dL_law_877 hc rfl rfl ⟨_, rfl, rfl⟩ rfl rfl (by decide) (Nat.le_of_ble_eq_true rfl) (fun v1 B1 L1 q => ?_)
  obtain ⟨rfl, hc2⟩ := q
  first | refine Es_aload_n hC dL_law_880 rfl ?_ | refine Es_aload_nN hC dL_law_880 rfl ?_
  first | refine Es_aload_n hC dL_law_881 rfl ?_ | refine Es_aload_nN hC dL_law_881 rfl ?_
  refine Es_iload_n hC dL_law_882 rfl ?_
  refine Es_iconst (v := 1) hC dL_law_883 (by decide) ?_
  refine Es_iadd hC dL_law_884 ?_
  refine Es_sld dL_law_885 (nI_add i 1) (by omega) hL ?_
  first | refine Es_aload_n hC dL_law_886 rfl ?_ | refine Es_aload_nN hC dL_law_886 rfl ?_
  refine Es_iload_n hC dL_law_887 rfl ?_
  refine Es_iconst (v := 2) hC dL_law_888 (by decide) ?_
  refine Es_iadd hC dL_law_889 ?_
  refine Es_sld dL_law_890 (nI_add i 2) (by omega) hL ?_
  refine Es_callV hC mv_L_115 dL_law_891 hc2 rfl rfl ⟨_, rfl, rfl⟩ rfl rfl (by decide) (Nat.le_of_ble_eq_true rfl) (fun v2 B2 L2 q => ?_)
  obtain ⟨rfl, hR2⟩ := q
  refine Es_icmp_eq hC 1041 dL_law_894 (by decide) (fun hb894 => ?_) (fun hb894 => False.elim (hb894 rfl))
  exact K _ _ _ _ _ _ _ (by omega) (by omega) hR2
set_option maxRecDepth 100000 in
set_option maxHeartbeats 4000000 in
theorem law_tyreOf {b L : Nat} {xs : Nat → Int32} {i bc bs : Nat} {ad : sA} {nw nt : Nat} {B : sB} {Ls : sL} (hL : L ≤ 2560) (hi : i + 5 ≤ L) (hb4 : 4 ≤ bc) (hb38 : 38 ≤ bs) (hR : Rel nw nt B Ls) (K : ∀ (ad1 : sA) (nw1 nt1 : Nat) (B1 : sB) (L1 : sL) (bc1 bs1 : Nat), bc - 4 ≤ bc1 → bs - 38 ≤ bs1 → Rel nw1 nt1 B1 L1 → Es (LC b L xs) 4 1041 [some (.ref b), some (.ref (ad1 0 0)), some (.ref (ad1 25 0)), some (.int (nI i))] [] ad1 nw1 nt1 B1 L1 bc1 bs1) : Es (LC b L xs) 4 899 [some (.ref b), some (.ref (ad 0 0)), some (.ref (ad 25 0)), some (.int (nI i))] [] ad nw nt B Ls bc bs := by
  have hC : je_Ok (LC b L xs) RL cL_law 4 2000 := LC_ok
  obtain ⟨v, hc⟩ := (s_tyreOf (ad := ad) hR (xs (i + 1)) (xs (i + 2))).gen
  first | refine Es_aload_n hC dL_law_899 rfl ?_ | refine Es_aload_nN hC dL_law_899 rfl ?_
  first | refine Es_aload_n hC dL_law_900 rfl ?_ | refine Es_aload_nN hC dL_law_900 rfl ?_
  refine Es_iload_n hC dL_law_901 rfl ?_
  refine Es_iconst (v := 1) hC dL_law_902 (by decide) ?_
  refine Es_iadd hC dL_law_903 ?_
  refine Es_sld dL_law_904 (nI_add i 1) (by omega) hL ?_
  first | refine Es_aload_n hC dL_law_905 rfl ?_ | refine Es_aload_nN hC dL_law_905 rfl ?_
  refine Es_iload_n hC dL_law_906 rfl ?_
  refine Es_iconst (v := 2) hC dL_law_907 (by decide) ?_
  refine Es_iadd hC dL_law_908 ?_
  refine Es_sld dL_law_909 (nI_add i 2) (by omega) hL ?_
  refine Es_callV hC mv_L_116 dL_law_910 hc rfl rfl ⟨_, rfl, rfl⟩ rfl rfl (by decide) (Nat.le_of_ble_eq_true rfl) (fun v1 B1 L1 q => ?_)
  obtain ⟨rfl, hc2⟩ := q
  first | refine Es_aload_n hC dL_law_913 rfl ?_ | refine Es_aload_nN hC dL_law_913 rfl ?_
  first | refine Es_aload_n hC dL_law_914 rfl ?_ | refine Es_aload_nN hC dL_law_914 rfl ?_
  refine Es_iload_n hC dL_law_915 rfl ?_
  refine Es_iconst (v := 1) hC dL_law_916 (by decide) ?_
  refine Es_iadd hC dL_law_917 ?_
  refine Es_sld dL_law_918 (nI_add i 1) (by omega) hL ?_
  first | refine Es_aload_n hC dL_law_919 rfl ?_ | refine Es_aload_nN hC dL_law_919 rfl ?_
  refine Es_iload_n hC dL_law_920 rfl ?_
  refine Es_iconst (v := 2) hC dL_law_921 (by decide) ?_
  refine Es_iadd hC dL_law_922 ?_
  refine Es_sld dL_law_923 (nI_add i 2) (by omega) hL ?_
  refine Es_callV hC mv_L_119 dL_law_924 hc2 rfl rfl ⟨_, rfl, rfl⟩ rfl rfl (by decide) (Nat.le_of_ble_eq_true rfl) (fun v2 B2 L2 q => ?_)
  obtain ⟨rfl, hR2⟩ := q
  refine Es_icmp_eq hC 1041 dL_law_927 (by decide) (fun hb927 => ?_) (fun hb927 => False.elim (hb927 rfl))
  exact K _ _ _ _ _ _ _ (by omega) (by omega) hR2
set_option maxRecDepth 100000 in
set_option maxHeartbeats 4000000 in
theorem law_reading {b L : Nat} {xs : Nat → Int32} {i bc bs : Nat} {ad : sA} {nw nt : Nat} {B : sB} {Ls : sL} (hL : L ≤ 2560) (hi : i + 5 ≤ L) (hb4 : 4 ≤ bc) (hb38 : 38 ≤ bs) (hR : Rel nw nt B Ls) (K : ∀ (ad1 : sA) (nw1 nt1 : Nat) (B1 : sB) (L1 : sL) (bc1 bs1 : Nat), bc - 4 ≤ bc1 → bs - 38 ≤ bs1 → Rel nw1 nt1 B1 L1 → Es (LC b L xs) 4 1041 [some (.ref b), some (.ref (ad1 0 0)), some (.ref (ad1 25 0)), some (.int (nI i))] [] ad1 nw1 nt1 B1 L1 bc1 bs1) : Es (LC b L xs) 4 932 [some (.ref b), some (.ref (ad 0 0)), some (.ref (ad 25 0)), some (.int (nI i))] [] ad nw nt B Ls bc bs := by
  have hC : je_Ok (LC b L xs) RL cL_law 4 2000 := LC_ok
  obtain ⟨v, hc⟩ := (s_reading (ad := ad) hR (xs (i + 1)) (xs (i + 2)) (xs (i + 3))).gen
  first | refine Es_aload_n hC dL_law_932 rfl ?_ | refine Es_aload_nN hC dL_law_932 rfl ?_
  first | refine Es_aload_n hC dL_law_933 rfl ?_ | refine Es_aload_nN hC dL_law_933 rfl ?_
  refine Es_iload_n hC dL_law_934 rfl ?_
  refine Es_iconst (v := 1) hC dL_law_935 (by decide) ?_
  refine Es_iadd hC dL_law_936 ?_
  refine Es_sld dL_law_937 (nI_add i 1) (by omega) hL ?_
  first | refine Es_aload_n hC dL_law_938 rfl ?_ | refine Es_aload_nN hC dL_law_938 rfl ?_
  refine Es_iload_n hC dL_law_939 rfl ?_
  refine Es_iconst (v := 2) hC dL_law_940 (by decide) ?_
  refine Es_iadd hC dL_law_941 ?_
  refine Es_sld dL_law_942 (nI_add i 2) (by omega) hL ?_
  first | refine Es_aload_n hC dL_law_943 rfl ?_ | refine Es_aload_nN hC dL_law_943 rfl ?_
  refine Es_iload_n hC dL_law_944 rfl ?_
  refine Es_iconst (v := 3) hC dL_law_945 (by decide) ?_
  refine Es_iadd hC dL_law_946 ?_
  refine Es_sld dL_law_947 (nI_add i 3) (by omega) hL ?_
  refine Es_callV hC mv_L_120 dL_law_948 hc rfl rfl ⟨_, rfl, rfl⟩ rfl rfl (by decide) (Nat.le_of_ble_eq_true rfl) (fun v1 B1 L1 q => ?_)
  obtain ⟨rfl, hc2⟩ := q
  first | refine Es_aload_n hC dL_law_951 rfl ?_ | refine Es_aload_nN hC dL_law_951 rfl ?_
  first | refine Es_aload_n hC dL_law_952 rfl ?_ | refine Es_aload_nN hC dL_law_952 rfl ?_
  refine Es_iload_n hC dL_law_953 rfl ?_
  refine Es_iconst (v := 1) hC dL_law_954 (by decide) ?_
  refine Es_iadd hC dL_law_955 ?_
  refine Es_sld dL_law_956 (nI_add i 1) (by omega) hL ?_
  first | refine Es_aload_n hC dL_law_957 rfl ?_ | refine Es_aload_nN hC dL_law_957 rfl ?_
  refine Es_iload_n hC dL_law_958 rfl ?_
  refine Es_iconst (v := 2) hC dL_law_959 (by decide) ?_
  refine Es_iadd hC dL_law_960 ?_
  refine Es_sld dL_law_961 (nI_add i 2) (by omega) hL ?_
  first | refine Es_aload_n hC dL_law_962 rfl ?_ | refine Es_aload_nN hC dL_law_962 rfl ?_
  refine Es_iload_n hC dL_law_963 rfl ?_
  refine Es_iconst (v := 3) hC dL_law_964 (by decide) ?_
  refine Es_iadd hC dL_law_965 ?_
  refine Es_sld dL_law_966 (nI_add i 3) (by omega) hL ?_
  refine Es_callV hC mv_L_123 dL_law_967 hc2 rfl rfl ⟨_, rfl, rfl⟩ rfl rfl (by decide) (Nat.le_of_ble_eq_true rfl) (fun v2 B2 L2 q => ?_)
  obtain ⟨rfl, hR2⟩ := q
  refine Es_icmp_eq hC 1041 dL_law_970 (by decide) (fun hb970 => ?_) (fun hb970 => False.elim (hb970 rfl))
  exact K _ _ _ _ _ _ _ (by omega) (by omega) hR2
set_option maxRecDepth 100000 in
set_option maxHeartbeats 4000000 in
theorem law_placeOf {b L : Nat} {xs : Nat → Int32} {i bc bs : Nat} {ad : sA} {nw nt : Nat} {B : sB} {Ls : sL} (hL : L ≤ 2560) (hi : i + 5 ≤ L) (hb4 : 4 ≤ bc) (hb38 : 38 ≤ bs) (hR : Rel nw nt B Ls) (K : ∀ (ad1 : sA) (nw1 nt1 : Nat) (B1 : sB) (L1 : sL) (bc1 bs1 : Nat), bc - 4 ≤ bc1 → bs - 38 ≤ bs1 → Rel nw1 nt1 B1 L1 → Es (LC b L xs) 4 1041 [some (.ref b), some (.ref (ad1 0 0)), some (.ref (ad1 25 0)), some (.int (nI i))] [] ad1 nw1 nt1 B1 L1 bc1 bs1) : Es (LC b L xs) 4 975 [some (.ref b), some (.ref (ad 0 0)), some (.ref (ad 25 0)), some (.int (nI i))] [] ad nw nt B Ls bc bs := by
  have hC : je_Ok (LC b L xs) RL cL_law 4 2000 := LC_ok
  obtain ⟨v, hc⟩ := (s_placeOf (ad := ad) hR (xs (i + 1)) (xs (i + 2)) (xs (i + 3))).gen
  first | refine Es_aload_n hC dL_law_975 rfl ?_ | refine Es_aload_nN hC dL_law_975 rfl ?_
  first | refine Es_aload_n hC dL_law_976 rfl ?_ | refine Es_aload_nN hC dL_law_976 rfl ?_
  refine Es_iload_n hC dL_law_977 rfl ?_
  refine Es_iconst (v := 1) hC dL_law_978 (by decide) ?_
  refine Es_iadd hC dL_law_979 ?_
  refine Es_sld dL_law_980 (nI_add i 1) (by omega) hL ?_
  first | refine Es_aload_n hC dL_law_981 rfl ?_ | refine Es_aload_nN hC dL_law_981 rfl ?_
  refine Es_iload_n hC dL_law_982 rfl ?_
  refine Es_iconst (v := 2) hC dL_law_983 (by decide) ?_
  refine Es_iadd hC dL_law_984 ?_
  refine Es_sld dL_law_985 (nI_add i 2) (by omega) hL ?_
  first | refine Es_aload_n hC dL_law_986 rfl ?_ | refine Es_aload_nN hC dL_law_986 rfl ?_
  refine Es_iload_n hC dL_law_987 rfl ?_
  refine Es_iconst (v := 3) hC dL_law_988 (by decide) ?_
  refine Es_iadd hC dL_law_989 ?_
  refine Es_sld dL_law_990 (nI_add i 3) (by omega) hL ?_
  refine Es_callV hC mv_L_124 dL_law_991 hc rfl rfl ⟨_, rfl, rfl⟩ rfl rfl (by decide) (Nat.le_of_ble_eq_true rfl) (fun v1 B1 L1 q => ?_)
  obtain ⟨rfl, hc2⟩ := q
  first | refine Es_aload_n hC dL_law_994 rfl ?_ | refine Es_aload_nN hC dL_law_994 rfl ?_
  first | refine Es_aload_n hC dL_law_995 rfl ?_ | refine Es_aload_nN hC dL_law_995 rfl ?_
  refine Es_iload_n hC dL_law_996 rfl ?_
  refine Es_iconst (v := 1) hC dL_law_997 (by decide) ?_
  refine Es_iadd hC dL_law_998 ?_
  refine Es_sld dL_law_999 (nI_add i 1) (by omega) hL ?_
  first | refine Es_aload_n hC dL_law_1000 rfl ?_ | refine Es_aload_nN hC dL_law_1000 rfl ?_
  refine Es_iload_n hC dL_law_1001 rfl ?_
  refine Es_iconst (v := 2) hC dL_law_1002 (by decide) ?_
  refine Es_iadd hC dL_law_1003 ?_
  refine Es_sld dL_law_1004 (nI_add i 2) (by omega) hL ?_
  first | refine Es_aload_n hC dL_law_1005 rfl ?_ | refine Es_aload_nN hC dL_law_1005 rfl ?_
  refine Es_iload_n hC dL_law_1006 rfl ?_
  refine Es_iconst (v := 3) hC dL_law_1007 (by decide) ?_
  refine Es_iadd hC dL_law_1008 ?_
  refine Es_sld dL_law_1009 (nI_add i 3) (by omega) hL ?_
  refine Es_callV hC mv_L_127 dL_law_1010 hc2 rfl rfl ⟨_, rfl, rfl⟩ rfl rfl (by decide) (Nat.le_of_ble_eq_true rfl) (fun v2 B2 L2 q => ?_)
  obtain ⟨rfl, hR2⟩ := q
  refine Es_icmp_eq hC 1041 dL_law_1013 (by decide) (fun hb1013 => ?_) (fun hb1013 => False.elim (hb1013 rfl))
  exact K _ _ _ _ _ _ _ (by omega) (by omega) hR2
set_option maxRecDepth 100000 in
set_option maxHeartbeats 4000000 in
theorem law_count {b L : Nat} {xs : Nat → Int32} {i bc bs : Nat} {ad : sA} {nw nt : Nat} {B : sB} {Ls : sL} (hL : L ≤ 2560) (hi : i + 5 ≤ L) (hb4 : 4 ≤ bc) (hb38 : 38 ≤ bs) (hR : Rel nw nt B Ls) (K : ∀ (ad1 : sA) (nw1 nt1 : Nat) (B1 : sB) (L1 : sL) (bc1 bs1 : Nat), bc - 4 ≤ bc1 → bs - 38 ≤ bs1 → Rel nw1 nt1 B1 L1 → Es (LC b L xs) 4 1041 [some (.ref b), some (.ref (ad1 0 0)), some (.ref (ad1 25 0)), some (.int (nI i))] [] ad1 nw1 nt1 B1 L1 bc1 bs1) : Es (LC b L xs) 4 1018 [some (.ref b), some (.ref (ad 0 0)), some (.ref (ad 25 0)), some (.int (nI i))] [] ad nw nt B Ls bc bs := by
  have hC : je_Ok (LC b L xs) RL cL_law 4 2000 := LC_ok
  obtain ⟨v, hc⟩ := (s_count (ad := ad) hR (xs (i + 1))).gen
  first | refine Es_aload_n hC dL_law_1018 rfl ?_ | refine Es_aload_nN hC dL_law_1018 rfl ?_
  first | refine Es_aload_n hC dL_law_1019 rfl ?_ | refine Es_aload_nN hC dL_law_1019 rfl ?_
  refine Es_iload_n hC dL_law_1020 rfl ?_
  refine Es_iconst (v := 1) hC dL_law_1021 (by decide) ?_
  refine Es_iadd hC dL_law_1022 ?_
  refine Es_sld dL_law_1023 (nI_add i 1) (by omega) hL ?_
  refine Es_callV hC mv_L_128 dL_law_1024 hc rfl rfl ⟨_, rfl, rfl⟩ rfl rfl (by decide) (Nat.le_of_ble_eq_true rfl) (fun v1 B1 L1 q => ?_)
  obtain ⟨rfl, hc2⟩ := q
  first | refine Es_aload_n hC dL_law_1027 rfl ?_ | refine Es_aload_nN hC dL_law_1027 rfl ?_
  first | refine Es_aload_n hC dL_law_1028 rfl ?_ | refine Es_aload_nN hC dL_law_1028 rfl ?_
  refine Es_iload_n hC dL_law_1029 rfl ?_
  refine Es_iconst (v := 1) hC dL_law_1030 (by decide) ?_
  refine Es_iadd hC dL_law_1031 ?_
  refine Es_sld dL_law_1032 (nI_add i 1) (by omega) hL ?_
  refine Es_callV hC mv_L_131 dL_law_1033 hc2 rfl rfl ⟨_, rfl, rfl⟩ rfl rfl (by decide) (Nat.le_of_ble_eq_true rfl) (fun v2 B2 L2 q => ?_)
  obtain ⟨rfl, hR2⟩ := q
  refine Es_icmp_eq hC 1041 dL_law_1036 (by decide) (fun hb1036 => ?_) (fun hb1036 => False.elim (hb1036 rfl))
  exact K _ _ _ _ _ _ _ (by omega) (by omega) hR2
theorem s_wagon {ad : sA} {nw nt : Nat} {B : sB} {L : sL} (hR : Rel nw nt B L) (h5 : nw = 5) : Stq yX5_wagon cX5_wagon 2 2 yX6_wagon cX6_wagon 1 1 (some .int) [] ad nw nt B L :=
  ⟨_, _, _, _, _, c_wagon_full hR.1.2.1 h5, r_wagon_full (by rw [uB_k (by decide)]; exact hR.1.1.trans (by rw [h5])), Rel_refuse hR⟩
set_option maxRecDepth 100000 in
set_option maxHeartbeats 4000000 in
theorem law_wagon {b L : Nat} {xs : Nat → Int32} {i bc bs : Nat} {ad : sA} {nw nt : Nat} {B : sB} {Ls : sL} (hL : L ≤ 2560) (hi : i + 5 ≤ L) (hb4 : 4 ≤ bc) (hb38 : 38 ≤ bs) (hR : Rel nw nt B Ls) (K : ∀ (ad1 : sA) (nw1 nt1 : Nat) (B1 : sB) (L1 : sL) (bc1 bs1 : Nat), bc - 4 ≤ bc1 → bs - 38 ≤ bs1 → Rel nw1 nt1 B1 L1 → Es (LC b L xs) 4 1041 [some (.ref b), some (.ref (ad1 0 0)), some (.ref (ad1 25 0)), some (.int (nI i))] [] ad1 nw1 nt1 B1 L1 bc1 bs1) : Es (LC b L xs) 4 160 [some (.ref b), some (.ref (ad 0 0)), some (.ref (ad 25 0)), some (.int (nI i))] [] ad nw nt B Ls bc bs := by
  have hC : je_Ok (LC b L xs) RL cL_law 4 2000 := LC_ok
  obtain ⟨s1, s2, s3, s4, s5, s6, s7, s8, s9, s10⟩ := hR.1
  by_cases h5 : nw = 5
  · obtain ⟨v, hc⟩ := (s_wagon (ad := ad) hR h5).gen
    first | refine Es_aload_n hC dL_law_160 rfl ?_ | refine Es_aload_nN hC dL_law_160 rfl ?_
    refine Es_callV hC mv_L_13 dL_law_161 hc rfl rfl ⟨_, rfl, rfl⟩ rfl rfl (by decide) (Nat.le_of_ble_eq_true rfl) (fun v1 B1 L1 q => ?_)
    obtain ⟨rfl, hc2⟩ := q
    first | refine Es_aload_n hC dL_law_164 rfl ?_ | refine Es_aload_nN hC dL_law_164 rfl ?_
    refine Es_callV hC mv_L_17 dL_law_165 hc2 rfl rfl ⟨_, rfl, rfl⟩ rfl rfl (by decide) (Nat.le_of_ble_eq_true rfl) (fun v2 B2 L2 q => ?_)
    obtain ⟨rfl, hR2⟩ := q
    refine Es_icmp_eq hC 1041 dL_law_168 (by decide) (fun hb168 => ?_) (fun hb168 => False.elim (hb168 rfl))
    exact K _ _ _ _ _ _ _ (by omega) (by omega) hR2
  · refine Es_aload_n hC dL_law_160 rfl ?_
    intro h hs
    refine En_callV (As := []) (rest := []) hC mv_L_13 dL_law_161 (c_wagon_yes hs s2 (by omega)) (hs.1 0 0 rfl) ⟨_, rfl, rfl⟩ rfl rfl (by decide) (Nat.le_of_ble_eq_true rfl) (by omega) (by omega) (fun v1 h1 q => ?_)
    obtain ⟨rfl, ad1, e0, e25, hs1⟩ := q
    refine (show Es (LC b L xs) 4 164 [some (.ref b), some (.ref (ad 0 0)), some (.ref (ad 25 0)), some (.int (nI i))] [.int (nI nw)] ad1 (nw + 1) nt (uB (BW B nw) 0 0 8 (nI (nw + 1))) Ls (bc - 3) (bs - 18) from ?_) h1 hs1
    rw [← e0, ← e25]
    first | refine Es_aload_n hC dL_law_164 rfl ?_ | refine Es_aload_nN hC dL_law_164 rfl ?_
    refine Es_fV hC mv_L_17 dL_law_165 (r_wagon_yes (n := nw) (by rw [uB_k (by decide)]; exact s1) (by omega)) rfl rfl ⟨_, rfl, rfl⟩ rfl rfl (by decide) (Nat.le_of_ble_eq_true rfl) ?_
    refine Es_icmp_eq hC 1041 dL_law_168 (by decide) (fun hb168 => ?_) (fun hb168 => False.elim (hb168 rfl))
    exact K _ _ _ _ _ _ _ (by omega) (by omega) (Rel_W hR (by omega))
theorem s_buy_1 {ad : sA} {nw nt : Nat} {B : sB} {L : sL} (hR : Rel nw nt B L) {y : Int32} (hm : out y 4) : Stq yX5_buy cX5_buy 3 5 yX6_buy cX6_buy 3 5 (some .int) [.int y] ad nw nt B L :=
  ⟨_, _, _, _, _, c_buy_1 hm, r_buy_1 hm, Rel_refuse hR⟩
theorem s_buy_40 {ad : sA} {nw nt : Nat} {B : sB} {L : sL} (hR : Rel nw nt B L) {m : Nat} (hm : m < 4) (h40 : nt = 40) : Stq yX5_buy cX5_buy 3 5 yX6_buy cX6_buy 3 5 (some .int) [.int (nI m)] ad nw nt B L := by
  obtain ⟨s1, s2, s3, s4, s5, s6, s7, s8, s9, s10⟩ := hR.1
  obtain ⟨k, g0, g1, g2, g3⟩ := hR.2.2.2.2.1
  exact ⟨_, _, _, _, _, c_buy_40 hm s5 g1 g0 h40, r_buy_40 hm (by rw [uB_k (by decide)]; exact s4.trans (by rw [h40])), Rel_refuse hR⟩
theorem s_buy_log {ad : sA} {nw nt : Nat} {B : sB} {L : sL} (hR : Rel nw nt B L) {m : Nat} (hm : m < 4) (h40 : nt < 40) (hf6 : ∃ k, B 6 0 3 = nI k ∧ k ≤ 600 ∧ ¬ k + 1 ≤ 600) : Stq yX5_buy cX5_buy 3 5 yX6_buy cX6_buy 3 5 (some .int) [.int (nI m)] ad nw nt B L := by
  obtain ⟨s1, s2, s3, s4, s5, s6, s7, s8, s9, s10⟩ := hR.1
  obtain ⟨k, g0, g1, g2, g3⟩ := hR.2.2.2.2.1
  obtain ⟨k', e1, e2, e3⟩ := hf6
  have : k' = k := (nI_eq (by omega) (by omega)).mp (e1.symm.trans g1)
  subst this
  exact ⟨_, _, _, _, _, c_buy_log hm s5 g1 g0 h40 e3, r_buy_log hm (by rw [uB_k (by decide)]; exact s4) h40 (by rw [uB_k (by decide)]; exact g2) g0 e3, Rel_refuse hR⟩
set_option maxRecDepth 100000 in
set_option maxHeartbeats 4000000 in
theorem law_buy {b L : Nat} {xs : Nat → Int32} {i bc bs : Nat} {ad : sA} {nw nt : Nat} {B : sB} {Ls : sL} (hL : L ≤ 2560) (hi : i + 5 ≤ L) (hb4 : 4 ≤ bc) (hb38 : 38 ≤ bs) (hR : Rel nw nt B Ls) (K : ∀ (ad1 : sA) (nw1 nt1 : Nat) (B1 : sB) (L1 : sL) (bc1 bs1 : Nat), bc - 4 ≤ bc1 → bs - 38 ≤ bs1 → Rel nw1 nt1 B1 L1 → Es (LC b L xs) 4 1041 [some (.ref b), some (.ref (ad1 0 0)), some (.ref (ad1 25 0)), some (.int (nI i))] [] ad1 nw1 nt1 B1 L1 bc1 bs1) : Es (LC b L xs) 4 295 [some (.ref b), some (.ref (ad 0 0)), some (.ref (ad 25 0)), some (.int (nI i))] [] ad nw nt B Ls bc bs := by
  have hC : je_Ok (LC b L xs) RL cL_law 4 2000 := LC_ok
  obtain ⟨s1, s2, s3, s4, s5, s6, s7, s8, s9, s10⟩ := hR.1
  rcases in_out (xs (i + 1)) (n := 4) (by omega) with ⟨m, hm, hxm⟩ | hom
  · obtain ⟨k, g0, g1, g2, g3⟩ := hR.2.2.2.2.1
    by_cases h40 : nt = 40
    · obtain ⟨v, hc⟩ := (s_buy_40 (ad := ad) hR hm h40).gen
      first | refine Es_aload_n hC dL_law_295 rfl ?_ | refine Es_aload_nN hC dL_law_295 rfl ?_
      first | refine Es_aload_n hC dL_law_296 rfl ?_ | refine Es_aload_nN hC dL_law_296 rfl ?_
      refine Es_iload_n hC dL_law_297 rfl ?_
      refine Es_iconst (v := 1) hC dL_law_298 (by decide) ?_
      refine Es_iadd hC dL_law_299 ?_
      refine Es_sld dL_law_300 (nI_add i 1) (by omega) hL ?_
      rw [hxm]
      refine Es_callV hC mv_L_36 dL_law_301 hc rfl rfl ⟨_, rfl, rfl⟩ rfl rfl (by decide) (Nat.le_of_ble_eq_true rfl) (fun v1 B1 L1 q => ?_)
      obtain ⟨rfl, hc2⟩ := q
      first | refine Es_aload_n hC dL_law_304 rfl ?_ | refine Es_aload_nN hC dL_law_304 rfl ?_
      first | refine Es_aload_n hC dL_law_305 rfl ?_ | refine Es_aload_nN hC dL_law_305 rfl ?_
      refine Es_iload_n hC dL_law_306 rfl ?_
      refine Es_iconst (v := 1) hC dL_law_307 (by decide) ?_
      refine Es_iadd hC dL_law_308 ?_
      refine Es_sld dL_law_309 (nI_add i 1) (by omega) hL ?_
      rw [hxm]
      refine Es_callV hC mv_L_39 dL_law_310 hc2 rfl rfl ⟨_, rfl, rfl⟩ rfl rfl (by decide) (Nat.le_of_ble_eq_true rfl) (fun v2 B2 L2 q => ?_)
      obtain ⟨rfl, hR2⟩ := q
      refine Es_icmp_eq hC 1041 dL_law_313 (by decide) (fun hb313 => ?_) (fun hb313 => False.elim (hb313 rfl))
      exact K _ _ _ _ _ _ _ (by omega) (by omega) hR2
    · by_cases hf6 : k + 1 ≤ 600
      · first | refine Es_aload_n hC dL_law_295 rfl ?_ | refine Es_aload_nN hC dL_law_295 rfl ?_
        first | refine Es_aload_n hC dL_law_296 rfl ?_ | refine Es_aload_nN hC dL_law_296 rfl ?_
        refine Es_iload_n hC dL_law_297 rfl ?_
        refine Es_iconst (v := 1) hC dL_law_298 (by decide) ?_
        refine Es_iadd hC dL_law_299 ?_
        refine Es_sld dL_law_300 (nI_add i 1) (by omega) hL ?_
        rw [hxm]
        intro h hs
        refine En_norm hs s6 (Rel_20 hR) (fun h hs => ?_)
        have hRN := Rel_N hR
        have hN := Nm_N (nw := nw) s6 (Rel_20 hR)
        refine En_callV (As := [.int (nI m)]) (rest := []) (b := adN ad nt B 0 0) hC mv_L_36 dL_law_301 (c_buy_yes hs hm s5 g1 hf6 (by omega) hN) (hs.1 0 0 rfl) ⟨_, rfl, rfl⟩ rfl rfl (by decide) (Nat.le_of_ble_eq_true rfl) (by omega) (by omega) (fun v1 h1 q => ?_)
        obtain ⟨rfl, ad1, e0, e25, hs1⟩ := q
        have e0 : ad1 0 0 = ad 0 0 := e0
        have e25 : ad1 25 0 = ad 25 0 := e25
        have hs1 : sH ad1 nw (nt + 1) (BTF (BN B nt) nt m k) (LTF (BN B nt) Ls nt m) h1 := hs1
        have k25 : BTF (BN B nt) nt m k 25 = B 25 := BTF_k (by decide) (by decide) (by decide) (by decide) (by decide) (by decide) (by decide) (by decide)
        have hRT := Rel_T hRN hm (by omega) g1 hf6
        generalize BTF (BN B nt) nt m k = C at hs1 k25 hRT
        generalize LTF (BN B nt) Ls nt m = LC1 at hs1 hRT
        refine (show Es (LC b L xs) 4 304 [some (.ref b), some (.ref (ad 0 0)), some (.ref (ad 25 0)), some (.int (nI i))] [.int (nI nt)] ad1 nw (nt + 1) C LC1 (bc - 4) (bs - 38) from ?_) h1 hs1
        rw [← e0, ← e25]
        first | refine Es_aload_n hC dL_law_304 rfl ?_ | refine Es_aload_nN hC dL_law_304 rfl ?_
        first | refine Es_aload_n hC dL_law_305 rfl ?_ | refine Es_aload_nN hC dL_law_305 rfl ?_
        refine Es_iload_n hC dL_law_306 rfl ?_
        refine Es_iconst (v := 1) hC dL_law_307 (by decide) ?_
        refine Es_iadd hC dL_law_308 ?_
        refine Es_sld dL_law_309 (nI_add i 1) (by omega) hL ?_
        rw [hxm]
        refine Es_fV hC mv_L_39 dL_law_310 (r_buy_yes (n := nt) hm (by rw [k25]; exact s4) (by omega) (by rw [k25]; exact g2) g0 hf6) rfl rfl ⟨_, rfl, rfl⟩ rfl rfl (by decide) (Nat.le_of_ble_eq_true rfl) ?_
        refine Es_icmp_eq hC 1041 dL_law_313 (by decide) (fun hb313 => ?_) (fun hb313 => False.elim (hb313 rfl))
        exact K _ _ _ _ _ _ _ (by omega) (by omega) hRT
      · obtain ⟨v, hc⟩ := (s_buy_log (ad := ad) hR hm (by omega) ⟨k, g1, g0, hf6⟩).gen
        first | refine Es_aload_n hC dL_law_295 rfl ?_ | refine Es_aload_nN hC dL_law_295 rfl ?_
        first | refine Es_aload_n hC dL_law_296 rfl ?_ | refine Es_aload_nN hC dL_law_296 rfl ?_
        refine Es_iload_n hC dL_law_297 rfl ?_
        refine Es_iconst (v := 1) hC dL_law_298 (by decide) ?_
        refine Es_iadd hC dL_law_299 ?_
        refine Es_sld dL_law_300 (nI_add i 1) (by omega) hL ?_
        rw [hxm]
        refine Es_callV hC mv_L_36 dL_law_301 hc rfl rfl ⟨_, rfl, rfl⟩ rfl rfl (by decide) (Nat.le_of_ble_eq_true rfl) (fun v1 B1 L1 q => ?_)
        obtain ⟨rfl, hc2⟩ := q
        first | refine Es_aload_n hC dL_law_304 rfl ?_ | refine Es_aload_nN hC dL_law_304 rfl ?_
        first | refine Es_aload_n hC dL_law_305 rfl ?_ | refine Es_aload_nN hC dL_law_305 rfl ?_
        refine Es_iload_n hC dL_law_306 rfl ?_
        refine Es_iconst (v := 1) hC dL_law_307 (by decide) ?_
        refine Es_iadd hC dL_law_308 ?_
        refine Es_sld dL_law_309 (nI_add i 1) (by omega) hL ?_
        rw [hxm]
        refine Es_callV hC mv_L_39 dL_law_310 hc2 rfl rfl ⟨_, rfl, rfl⟩ rfl rfl (by decide) (Nat.le_of_ble_eq_true rfl) (fun v2 B2 L2 q => ?_)
        obtain ⟨rfl, hR2⟩ := q
        refine Es_icmp_eq hC 1041 dL_law_313 (by decide) (fun hb313 => ?_) (fun hb313 => False.elim (hb313 rfl))
        exact K _ _ _ _ _ _ _ (by omega) (by omega) hR2
  · obtain ⟨v, hc⟩ := (s_buy_1 (ad := ad) hR hom).gen
    first | refine Es_aload_n hC dL_law_295 rfl ?_ | refine Es_aload_nN hC dL_law_295 rfl ?_
    first | refine Es_aload_n hC dL_law_296 rfl ?_ | refine Es_aload_nN hC dL_law_296 rfl ?_
    refine Es_iload_n hC dL_law_297 rfl ?_
    refine Es_iconst (v := 1) hC dL_law_298 (by decide) ?_
    refine Es_iadd hC dL_law_299 ?_
    refine Es_sld dL_law_300 (nI_add i 1) (by omega) hL ?_
    refine Es_callV hC mv_L_36 dL_law_301 hc rfl rfl ⟨_, rfl, rfl⟩ rfl rfl (by decide) (Nat.le_of_ble_eq_true rfl) (fun v1 B1 L1 q => ?_)
    obtain ⟨rfl, hc2⟩ := q
    first | refine Es_aload_n hC dL_law_304 rfl ?_ | refine Es_aload_nN hC dL_law_304 rfl ?_
    first | refine Es_aload_n hC dL_law_305 rfl ?_ | refine Es_aload_nN hC dL_law_305 rfl ?_
    refine Es_iload_n hC dL_law_306 rfl ?_
    refine Es_iconst (v := 1) hC dL_law_307 (by decide) ?_
    refine Es_iadd hC dL_law_308 ?_
    refine Es_sld dL_law_309 (nI_add i 1) (by omega) hL ?_
    refine Es_callV hC mv_L_39 dL_law_310 hc2 rfl rfl ⟨_, rfl, rfl⟩ rfl rfl (by decide) (Nat.le_of_ble_eq_true rfl) (fun v2 B2 L2 q => ?_)
    obtain ⟨rfl, hR2⟩ := q
    refine Es_icmp_eq hC 1041 dL_law_313 (by decide) (fun hb313 => ?_) (fun hb313 => False.elim (hb313 rfl))
    exact K _ _ _ _ _ _ _ (by omega) (by omega) hR2
