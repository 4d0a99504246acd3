theorem x_law (L : Nat) (xs : Nat → Int32) (hL : L ≤ 3072) : am_wp 195 (0, [some (.ref 0), none, none, none], []) (am_ex0 L xs) (fun v h => v = some (.int 1) ∧ h.length ≤ 600003 ∧ am_sz h ≤ L + 7302250) := by
  refine w_new s195_0 rfl ?_
  refine w_dup_r s195_3 ?_
  refine w_callI0 s195_4 mc195_39 rfl rfl (c39 _ _ _) ?_
  rintro v h1 ⟨rfl, rfl⟩
  show am_wp _ (_, _, _) _ _
  refine w_astore_n s195_7 rfl ?_
  show am_wp _ (_, [_, some (.ref 3), _, _], _) _ _
  show am_wp _ (_, [_, _, _, _], _) _ _
  refine w_new s195_8 rfl ?_
  refine w_dup_r s195_11 ?_
  refine w_callI0 s195_12 mc195_102 rfl rfl (c102 _ rfl) ?_
  rintro v h1 ⟨rfl, rfl⟩
  show am_wp _ (_, _, _) (x_hs L xs) _
  refine w_astore_n s195_15 rfl ?_
  show am_wp _ (_, [_, _, some (.ref 27), _], _) _ _
  show am_wp _ (_, [_, _, _, _], _) _ _
  refine w_iconst (v := 0) s195_16 rfl ?_
  refine w_istore_n s195_17 rfl ?_
  show am_wp _ (_, [_, _, _, _], _) _ _
  refine am_lp (n := L / 6) (P := fun n => ∀ h cc aa, x_G L xs n h cc aa → am_wp 195 (18, [_, _, _, some (.int (nI (6 * n)))], []) h _) ?_ 0 (Nat.zero_le _) _ _ _ (x_G0 L xs)
  intro n hn ihn h cc aa hg
  have hn6 := Nat.div_mul_le_self L 6
  have hsc := hg.2.2.2.1
  have hw := hg.2.1
  have iv := hg.2.2.1
  obtain ⟨P, D, hx⟩ := hg.1
  show am_wp _ (_, [_, _, _, _], _) _ _
  refine w_iload_n s195_18 rfl ?_
  refine w_aload_n s195_19 rfl ?_
  refine w_alen s195_20 hsc (Or.inr (Or.inl ⟨rfl, rfl⟩)) ?_
  refine w_bipush (v := 6) s195_21 rfl ?_
  refine w_isub s195_23 rfl ?_
  refine w_icmpgt s195_24 rfl  (fun c24 => ?_) (fun c24 => ?_)
  · skip
    skip
    refine w_iconst (v := 1) s195_1394 rfl ?_
    refine w_zret1 s195_1395 rk195 ?_
    have g4 := hg.2.2.2.2.1
    have g5 := hg.2.2.2.2.2
    exact ⟨rfl, by omega, by omega⟩
  · skip
    have h6 : 6 * n + 6 ≤ L := by
      have e1 := pk_sub_toInt (a := L) (b := 6) (by omega) (by decide)
      have c24 : ¬ nI L - nI 6 < nI (6 * n) := c24
      rw [Int32.lt_iff_toInt_lt, e1, nI_toInt (by omega)] at c24
      omega
    refine w_aload_n s195_27 rfl ?_
    refine w_iload_n s195_28 rfl ?_
    refine w_iald0 (v := xs (6 * n)) s195_29 hsc (am_inb (show (6 * n) < L by omega) (by omega)) (by rw [nI_clamp (show (6 * n) < 2 ^ 31 by omega)]) ?_
    refine w_bipush (v := 63) s195_30 rfl ?_
    refine w_iand s195_32 rfl ?_
    generalize xs (6 * n) &&& 63 = op
    rcases x_sw op 0 36 (by decide) (by decide) with hq | ⟨j33, hj1, hj2, hj3⟩
    · skip
      refine w_tswO s195_33 hq rfl ?_
      refine w_iinc s195_1388 rfl (show nI (6 * n) + Int32.ofInt 6 = nI (6 * (n + 1)) from nI_add _ 6) rfl ?_
      show am_wp _ (_, [_, _, _, _], _) _ _
      refine w_goto s195_1391 rfl ?_
      exact ihn (by omega) _ _ _ (x_G_r hg)
    · skip
      obtain (rfl | rfl | rfl | rfl | rfl | rfl | rfl | rfl | rfl | rfl | rfl | rfl | rfl | rfl | rfl | rfl | rfl | rfl | rfl | rfl | rfl | rfl | rfl | rfl | rfl | rfl | rfl | rfl | rfl | rfl | rfl | rfl | rfl | rfl | rfl | rfl | rfl) : j33 = 0 ∨ j33 = 1 ∨ j33 = 2 ∨ j33 = 3 ∨ j33 = 4 ∨ j33 = 5 ∨ j33 = 6 ∨ j33 = 7 ∨ j33 = 8 ∨ j33 = 9 ∨ j33 = 10 ∨ j33 = 11 ∨ j33 = 12 ∨ j33 = 13 ∨ j33 = 14 ∨ j33 = 15 ∨ j33 = 16 ∨ j33 = 17 ∨ j33 = 18 ∨ j33 = 19 ∨ j33 = 20 ∨ j33 = 21 ∨ j33 = 22 ∨ j33 = 23 ∨ j33 = 24 ∨ j33 = 25 ∨ j33 = 26 ∨ j33 = 27 ∨ j33 = 28 ∨ j33 = 29 ∨ j33 = 30 ∨ j33 = 31 ∨ j33 = 32 ∨ j33 = 33 ∨ j33 = 34 ∨ j33 = 35 ∨ j33 = 36 := by omega
      · skip
        have hj4 : op = 0 := hj3
        clear hj3
        subst hj4
        refine w_tswI (n := 0) s195_33 (by decide) rfl rfl rfl ?_
        refine w_aload_n s195_196 rfl ?_
        refine w_aload_n s195_197 rfl ?_
        refine w_iload_n s195_198 rfl ?_
        refine w_iconst (v := 1) s195_199 rfl ?_
        refine w_iaddN (x := (6 * n)) (y := 1) s195_200 ?_
        refine w_iald0 (v := xs ((6 * n) + 1)) s195_201 hsc (am_inb (show ((6 * n) + 1) < L by omega) (by omega)) (by rw [nI_clamp (show ((6 * n) + 1) < 2 ^ 31 by omega)]) ?_
        refine w_aload_n s195_202 rfl ?_
        refine w_iload_n s195_203 rfl ?_
        refine w_iconst (v := 2) s195_204 rfl ?_
        refine w_iaddN (x := (6 * n)) (y := 2) s195_205 ?_
        refine w_iald0 (v := xs ((6 * n) + 2)) s195_206 hsc (am_inb (show ((6 * n) + 2) < L by omega) (by omega)) (by rw [nI_clamp (show ((6 * n) + 2) < 2 ^ 31 by omega)]) ?_
        refine w_aload_n s195_207 rfl ?_
        refine w_iload_n s195_208 rfl ?_
        refine w_iconst (v := 3) s195_209 rfl ?_
        refine w_iaddN (x := (6 * n)) (y := 3) s195_210 ?_
        refine w_iald0 (v := xs ((6 * n) + 3)) s195_211 hsc (am_inb (show ((6 * n) + 3) < L by omega) (by omega)) (by rw [nI_clamp (show ((6 * n) + 3) < 2 ^ 31 by omega)]) ?_
        refine w_callV3 s195_212 hx.o ow40 mc195_40 rfl rfl (c40 hx iv _ _ _) ?_
        rintro v h1 ⟨rfl, P1, D1, hx1⟩
        replace hw := hw.xf hx1.1
        replace hsc := (hx1.1.2.2.2.2.1 0 (Or.inl (by decide))).trans hsc
        show am_wp _ (_, _, Value.int _ :: _) _ _
        refine w_aload_n s195_215 rfl ?_
        refine w_aload_n s195_216 rfl ?_
        refine w_iload_n s195_217 rfl ?_
        refine w_iconst (v := 1) s195_218 rfl ?_
        refine w_iaddN (x := (6 * n)) (y := 1) s195_219 ?_
        refine w_iald0 (v := xs ((6 * n) + 1)) s195_220 hsc (am_inb (show ((6 * n) + 1) < L by omega) (by omega)) (by rw [nI_clamp (show ((6 * n) + 1) < 2 ^ 31 by omega)]) ?_
        refine w_aload_n s195_221 rfl ?_
        refine w_iload_n s195_222 rfl ?_
        refine w_iconst (v := 2) s195_223 rfl ?_
        refine w_iaddN (x := (6 * n)) (y := 2) s195_224 ?_
        refine w_iald0 (v := xs ((6 * n) + 2)) s195_225 hsc (am_inb (show ((6 * n) + 2) < L by omega) (by omega)) (by rw [nI_clamp (show ((6 * n) + 2) < 2 ^ 31 by omega)]) ?_
        refine w_aload_n s195_226 rfl ?_
        refine w_iload_n s195_227 rfl ?_
        refine w_iconst (v := 3) s195_228 rfl ?_
        refine w_iaddN (x := (6 * n)) (y := 3) s195_229 ?_
        refine w_iald0 (v := xs ((6 * n) + 3)) s195_230 hsc (am_inb (show ((6 * n) + 3) < L by omega) (by omega)) (by rw [nI_clamp (show ((6 * n) + 3) < 2 ^ 31 by omega)]) ?_
        refine w_callV3 s195_231 (hw 0 _ rfl) ow108 mc195_108 rfl rfl (c108 hw iv _ _ _) ?_
        rintro v h2 ⟨rfl, hw2, fr2⟩
        show am_wp _ (_, _, Value.int _ :: _) _ _
        refine w_icmpeq s195_234 rfl  (fun c234 => ?_) (fun c => False.elim (c rfl))
        refine w_iinc s195_1388 rfl (show nI (6 * n) + Int32.ofInt 6 = nI (6 * (n + 1)) from nI_add _ 6) rfl ?_
        show am_wp _ (_, [_, _, _, _], _) _ _
        refine w_goto s195_1391 rfl ?_
        exact ihn (by omega) _ _ _ (x_G_m hg hx1 hw2 fr2 (iv_S_square iv _ _ _))
      · skip
        have hj4 : op = 1 := hj3
        clear hj3
        subst hj4
        refine w_tswI (n := 1) s195_33 (by decide) rfl rfl rfl ?_
        refine w_aload_n s195_239 rfl ?_
        refine w_aload_n s195_240 rfl ?_
        refine w_iload_n s195_241 rfl ?_
        refine w_iconst (v := 1) s195_242 rfl ?_
        refine w_iaddN (x := (6 * n)) (y := 1) s195_243 ?_
        refine w_iald0 (v := xs ((6 * n) + 1)) s195_244 hsc (am_inb (show ((6 * n) + 1) < L by omega) (by omega)) (by rw [nI_clamp (show ((6 * n) + 1) < 2 ^ 31 by omega)]) ?_
        refine w_aload_n s195_245 rfl ?_
        refine w_iload_n s195_246 rfl ?_
        refine w_iconst (v := 2) s195_247 rfl ?_
        refine w_iaddN (x := (6 * n)) (y := 2) s195_248 ?_
        refine w_iald0 (v := xs ((6 * n) + 2)) s195_249 hsc (am_inb (show ((6 * n) + 2) < L by omega) (by omega)) (by rw [nI_clamp (show ((6 * n) + 2) < 2 ^ 31 by omega)]) ?_
        refine w_callV2r s195_250 hx.o ow41 mc195_41 rfl rfl (c41 hx iv _ _) ?_
        refine w_aload_n s195_253 rfl ?_
        refine w_aload_n s195_254 rfl ?_
        refine w_iload_n s195_255 rfl ?_
        refine w_iconst (v := 1) s195_256 rfl ?_
        refine w_iaddN (x := (6 * n)) (y := 1) s195_257 ?_
        refine w_iald0 (v := xs ((6 * n) + 1)) s195_258 hsc (am_inb (show ((6 * n) + 1) < L by omega) (by omega)) (by rw [nI_clamp (show ((6 * n) + 1) < 2 ^ 31 by omega)]) ?_
        refine w_aload_n s195_259 rfl ?_
        refine w_iload_n s195_260 rfl ?_
        refine w_iconst (v := 2) s195_261 rfl ?_
        refine w_iaddN (x := (6 * n)) (y := 2) s195_262 ?_
        refine w_iald0 (v := xs ((6 * n) + 2)) s195_263 hsc (am_inb (show ((6 * n) + 2) < L by omega) (by omega)) (by rw [nI_clamp (show ((6 * n) + 2) < 2 ^ 31 by omega)]) ?_
        refine w_callV2r s195_264 (hw 0 _ rfl) ow110 mc195_110 rfl rfl (c110 hw iv _ _) ?_
        refine w_icmpeq s195_267 rfl  (fun c267 => ?_) (fun c => False.elim (c rfl))
        refine w_iinc s195_1388 rfl (show nI (6 * n) + Int32.ofInt 6 = nI (6 * (n + 1)) from nI_add _ 6) rfl ?_
        show am_wp _ (_, [_, _, _, _], _) _ _
        refine w_goto s195_1391 rfl ?_
        exact ihn (by omega) _ _ _ (x_G_r hg)
      · skip
        have hj4 : op = 2 := hj3
        clear hj3
        subst hj4
        refine w_tswI (n := 2) s195_33 (by decide) rfl rfl rfl ?_
        refine w_aload_n s195_272 rfl ?_
        refine w_aload_n s195_273 rfl ?_
        refine w_iload_n s195_274 rfl ?_
        refine w_iconst (v := 1) s195_275 rfl ?_
        refine w_iaddN (x := (6 * n)) (y := 1) s195_276 ?_
        refine w_iald0 (v := xs ((6 * n) + 1)) s195_277 hsc (am_inb (show ((6 * n) + 1) < L by omega) (by omega)) (by rw [nI_clamp (show ((6 * n) + 1) < 2 ^ 31 by omega)]) ?_
        refine w_callV1 s195_278 hx.o ow42 mc195_42 rfl rfl (c42 hx iv _) ?_
        rintro v h1 ⟨rfl, P1, D1, hx1⟩
        replace hw := hw.xf hx1.1
        replace hsc := (hx1.1.2.2.2.2.1 0 (Or.inl (by decide))).trans hsc
        show am_wp _ (_, _, Value.int _ :: _) _ _
        refine w_aload_n s195_281 rfl ?_
        refine w_aload_n s195_282 rfl ?_
        refine w_iload_n s195_283 rfl ?_
        refine w_iconst (v := 1) s195_284 rfl ?_
        refine w_iaddN (x := (6 * n)) (y := 1) s195_285 ?_
        refine w_iald0 (v := xs ((6 * n) + 1)) s195_286 hsc (am_inb (show ((6 * n) + 1) < L by omega) (by omega)) (by rw [nI_clamp (show ((6 * n) + 1) < 2 ^ 31 by omega)]) ?_
        refine w_callV1 s195_287 (hw 0 _ rfl) ow111 mc195_111 rfl rfl (c111 hw iv _) ?_
        rintro v h2 ⟨rfl, hw2, fr2⟩
        show am_wp _ (_, _, Value.int _ :: _) _ _
        refine w_icmpeq s195_290 rfl  (fun c290 => ?_) (fun c => False.elim (c rfl))
        refine w_iinc s195_1388 rfl (show nI (6 * n) + Int32.ofInt 6 = nI (6 * (n + 1)) from nI_add _ 6) rfl ?_
        show am_wp _ (_, [_, _, _, _], _) _ _
        refine w_goto s195_1391 rfl ?_
        exact ihn (by omega) _ _ _ (x_G_m hg hx1 hw2 fr2 (iv_S_hearing iv _))
      · skip
        have hj4 : op = 3 := hj3
        clear hj3
        subst hj4
        refine w_tswI (n := 3) s195_33 (by decide) rfl rfl rfl ?_
        refine w_aload_n s195_295 rfl ?_
        refine w_aload_n s195_296 rfl ?_
        refine w_iload_n s195_297 rfl ?_
        refine w_iconst (v := 1) s195_298 rfl ?_
        refine w_iaddN (x := (6 * n)) (y := 1) s195_299 ?_
        refine w_iald0 (v := xs ((6 * n) + 1)) s195_300 hsc (am_inb (show ((6 * n) + 1) < L by omega) (by omega)) (by rw [nI_clamp (show ((6 * n) + 1) < 2 ^ 31 by omega)]) ?_
        refine w_callV1 s195_301 hx.o ow43 mc195_43 rfl rfl (c43 hx iv _) ?_
        rintro v h1 ⟨rfl, P1, D1, hx1⟩
        replace hw := hw.xf hx1.1
        replace hsc := (hx1.1.2.2.2.2.1 0 (Or.inl (by decide))).trans hsc
        show am_wp _ (_, _, Value.int _ :: _) _ _
        refine w_aload_n s195_304 rfl ?_
        refine w_aload_n s195_305 rfl ?_
        refine w_iload_n s195_306 rfl ?_
        refine w_iconst (v := 1) s195_307 rfl ?_
        refine w_iaddN (x := (6 * n)) (y := 1) s195_308 ?_
        refine w_iald0 (v := xs ((6 * n) + 1)) s195_309 hsc (am_inb (show ((6 * n) + 1) < L by omega) (by omega)) (by rw [nI_clamp (show ((6 * n) + 1) < 2 ^ 31 by omega)]) ?_
        refine w_callV1 s195_310 (hw 0 _ rfl) ow112 mc195_112 rfl rfl (c112 hw iv _) ?_
        rintro v h2 ⟨rfl, hw2, fr2⟩
        show am_wp _ (_, _, Value.int _ :: _) _ _
        refine w_icmpeq s195_313 rfl  (fun c313 => ?_) (fun c => False.elim (c rfl))
        refine w_iinc s195_1388 rfl (show nI (6 * n) + Int32.ofInt 6 = nI (6 * (n + 1)) from nI_add _ 6) rfl ?_
        show am_wp _ (_, [_, _, _, _], _) _ _
        refine w_goto s195_1391 rfl ?_
        exact ihn (by omega) _ _ _ (x_G_m hg hx1 hw2 fr2 (iv_S_later iv _))
      · skip
        have hj4 : op = 4 := hj3
        clear hj3
        subst hj4
        refine w_tswI (n := 4) s195_33 (by decide) rfl rfl rfl ?_
        refine w_aload_n s195_318 rfl ?_
        refine w_aload_n s195_319 rfl ?_
        refine w_iload_n s195_320 rfl ?_
        refine w_iconst (v := 1) s195_321 rfl ?_
        refine w_iaddN (x := (6 * n)) (y := 1) s195_322 ?_
        refine w_iald0 (v := xs ((6 * n) + 1)) s195_323 hsc (am_inb (show ((6 * n) + 1) < L by omega) (by omega)) (by rw [nI_clamp (show ((6 * n) + 1) < 2 ^ 31 by omega)]) ?_
        refine w_aload_n s195_324 rfl ?_
        refine w_iload_n s195_325 rfl ?_
        refine w_iconst (v := 2) s195_326 rfl ?_
        refine w_iaddN (x := (6 * n)) (y := 2) s195_327 ?_
        refine w_iald0 (v := xs ((6 * n) + 2)) s195_328 hsc (am_inb (show ((6 * n) + 2) < L by omega) (by omega)) (by rw [nI_clamp (show ((6 * n) + 2) < 2 ^ 31 by omega)]) ?_
        refine w_aload_n s195_329 rfl ?_
        refine w_iload_n s195_330 rfl ?_
        refine w_iconst (v := 3) s195_331 rfl ?_
        refine w_iaddN (x := (6 * n)) (y := 3) s195_332 ?_
        refine w_iald0 (v := xs ((6 * n) + 3)) s195_333 hsc (am_inb (show ((6 * n) + 3) < L by omega) (by omega)) (by rw [nI_clamp (show ((6 * n) + 3) < 2 ^ 31 by omega)]) ?_
        refine w_aload_n s195_334 rfl ?_
        refine w_iload_n s195_335 rfl ?_
        refine w_iconst (v := 4) s195_336 rfl ?_
        refine w_iaddN (x := (6 * n)) (y := 4) s195_337 ?_
        refine w_iald0 (v := xs ((6 * n) + 4)) s195_338 hsc (am_inb (show ((6 * n) + 4) < L by omega) (by omega)) (by rw [nI_clamp (show ((6 * n) + 4) < 2 ^ 31 by omega)]) ?_
        refine w_callV4 s195_339 hx.o ow44 mc195_44 rfl rfl (c44 hx iv _ _ _ _) ?_
        rintro v h1 ⟨rfl, P1, D1, hx1⟩
        replace hw := hw.xf hx1.1
        replace hsc := (hx1.1.2.2.2.2.1 0 (Or.inl (by decide))).trans hsc
        show am_wp _ (_, _, Value.int _ :: _) _ _
        refine w_aload_n s195_342 rfl ?_
        refine w_aload_n s195_343 rfl ?_
        refine w_iload_n s195_344 rfl ?_
        refine w_iconst (v := 1) s195_345 rfl ?_
        refine w_iaddN (x := (6 * n)) (y := 1) s195_346 ?_
        refine w_iald0 (v := xs ((6 * n) + 1)) s195_347 hsc (am_inb (show ((6 * n) + 1) < L by omega) (by omega)) (by rw [nI_clamp (show ((6 * n) + 1) < 2 ^ 31 by omega)]) ?_
        refine w_aload_n s195_348 rfl ?_
        refine w_iload_n s195_349 rfl ?_
        refine w_iconst (v := 2) s195_350 rfl ?_
        refine w_iaddN (x := (6 * n)) (y := 2) s195_351 ?_
        refine w_iald0 (v := xs ((6 * n) + 2)) s195_352 hsc (am_inb (show ((6 * n) + 2) < L by omega) (by omega)) (by rw [nI_clamp (show ((6 * n) + 2) < 2 ^ 31 by omega)]) ?_
        refine w_aload_n s195_353 rfl ?_
        refine w_iload_n s195_354 rfl ?_
        refine w_iconst (v := 3) s195_355 rfl ?_
        refine w_iaddN (x := (6 * n)) (y := 3) s195_356 ?_
        refine w_iald0 (v := xs ((6 * n) + 3)) s195_357 hsc (am_inb (show ((6 * n) + 3) < L by omega) (by omega)) (by rw [nI_clamp (show ((6 * n) + 3) < 2 ^ 31 by omega)]) ?_
        refine w_aload_n s195_358 rfl ?_
        refine w_iload_n s195_359 rfl ?_
        refine w_iconst (v := 4) s195_360 rfl ?_
        refine w_iaddN (x := (6 * n)) (y := 4) s195_361 ?_
        refine w_iald0 (v := xs ((6 * n) + 4)) s195_362 hsc (am_inb (show ((6 * n) + 4) < L by omega) (by omega)) (by rw [nI_clamp (show ((6 * n) + 4) < 2 ^ 31 by omega)]) ?_
        refine w_callV4 s195_363 (hw 0 _ rfl) ow114 mc195_114 rfl rfl (c114 hw iv _ _ _ _) ?_
        rintro v h2 ⟨rfl, hw2, fr2⟩
        show am_wp _ (_, _, Value.int _ :: _) _ _
        refine w_icmpeq s195_366 rfl  (fun c366 => ?_) (fun c => False.elim (c rfl))
        refine w_iinc s195_1388 rfl (show nI (6 * n) + Int32.ofInt 6 = nI (6 * (n + 1)) from nI_add _ 6) rfl ?_
        show am_wp _ (_, [_, _, _, _], _) _ _
        refine w_goto s195_1391 rfl ?_
        exact ihn (by omega) _ _ _ (x_G_m hg hx1 hw2 fr2 (iv_S_move iv _ _ _ _))
      · skip
        have hj4 : op = 5 := hj3
        clear hj3
        subst hj4
        refine w_tswI (n := 5) s195_33 (by decide) rfl rfl rfl ?_
        refine w_aload_n s195_371 rfl ?_
        refine w_aload_n s195_372 rfl ?_
        refine w_iload_n s195_373 rfl ?_
        refine w_iconst (v := 1) s195_374 rfl ?_
        refine w_iaddN (x := (6 * n)) (y := 1) s195_375 ?_
        refine w_iald0 (v := xs ((6 * n) + 1)) s195_376 hsc (am_inb (show ((6 * n) + 1) < L by omega) (by omega)) (by rw [nI_clamp (show ((6 * n) + 1) < 2 ^ 31 by omega)]) ?_
        refine w_aload_n s195_377 rfl ?_
        refine w_iload_n s195_378 rfl ?_
        refine w_iconst (v := 2) s195_379 rfl ?_
        refine w_iaddN (x := (6 * n)) (y := 2) s195_380 ?_
        refine w_iald0 (v := xs ((6 * n) + 2)) s195_381 hsc (am_inb (show ((6 * n) + 2) < L by omega) (by omega)) (by rw [nI_clamp (show ((6 * n) + 2) < 2 ^ 31 by omega)]) ?_
        refine w_aload_n s195_382 rfl ?_
        refine w_iload_n s195_383 rfl ?_
        refine w_iconst (v := 3) s195_384 rfl ?_
        refine w_iaddN (x := (6 * n)) (y := 3) s195_385 ?_
        refine w_iald0 (v := xs ((6 * n) + 3)) s195_386 hsc (am_inb (show ((6 * n) + 3) < L by omega) (by omega)) (by rw [nI_clamp (show ((6 * n) + 3) < 2 ^ 31 by omega)]) ?_
        refine w_callV3r s195_387 hx.o ow45 mc195_45 rfl rfl (c45 hx iv _ _ _) ?_
        refine w_aload_n s195_390 rfl ?_
        refine w_aload_n s195_391 rfl ?_
        refine w_iload_n s195_392 rfl ?_
        refine w_iconst (v := 1) s195_393 rfl ?_
        refine w_iaddN (x := (6 * n)) (y := 1) s195_394 ?_
        refine w_iald0 (v := xs ((6 * n) + 1)) s195_395 hsc (am_inb (show ((6 * n) + 1) < L by omega) (by omega)) (by rw [nI_clamp (show ((6 * n) + 1) < 2 ^ 31 by omega)]) ?_
        refine w_aload_n s195_396 rfl ?_
        refine w_iload_n s195_397 rfl ?_
        refine w_iconst (v := 2) s195_398 rfl ?_
        refine w_iaddN (x := (6 * n)) (y := 2) s195_399 ?_
        refine w_iald0 (v := xs ((6 * n) + 2)) s195_400 hsc (am_inb (show ((6 * n) + 2) < L by omega) (by omega)) (by rw [nI_clamp (show ((6 * n) + 2) < 2 ^ 31 by omega)]) ?_
        refine w_aload_n s195_401 rfl ?_
        refine w_iload_n s195_402 rfl ?_
        refine w_iconst (v := 3) s195_403 rfl ?_
        refine w_iaddN (x := (6 * n)) (y := 3) s195_404 ?_
        refine w_iald0 (v := xs ((6 * n) + 3)) s195_405 hsc (am_inb (show ((6 * n) + 3) < L by omega) (by omega)) (by rw [nI_clamp (show ((6 * n) + 3) < 2 ^ 31 by omega)]) ?_
        refine w_callV3r s195_406 (hw 0 _ rfl) ow116 mc195_116 rfl rfl (c116 hw iv _ _ _) ?_
        refine w_icmpeq s195_409 rfl  (fun c409 => ?_) (fun c => False.elim (c rfl))
        refine w_iinc s195_1388 rfl (show nI (6 * n) + Int32.ofInt 6 = nI (6 * (n + 1)) from nI_add _ 6) rfl ?_
        show am_wp _ (_, [_, _, _, _], _) _ _
        refine w_goto s195_1391 rfl ?_
        exact ihn (by omega) _ _ _ (x_G_r hg)
      · skip
        have hj4 : op = 6 := hj3
        clear hj3
        subst hj4
        refine w_tswI (n := 6) s195_33 (by decide) rfl rfl rfl ?_
        refine w_aload_n s195_414 rfl ?_
        refine w_aload_n s195_415 rfl ?_
        refine w_iload_n s195_416 rfl ?_
        refine w_iconst (v := 1) s195_417 rfl ?_
        refine w_iaddN (x := (6 * n)) (y := 1) s195_418 ?_
        refine w_iald0 (v := xs ((6 * n) + 1)) s195_419 hsc (am_inb (show ((6 * n) + 1) < L by omega) (by omega)) (by rw [nI_clamp (show ((6 * n) + 1) < 2 ^ 31 by omega)]) ?_
        refine w_aload_n s195_420 rfl ?_
        refine w_iload_n s195_421 rfl ?_
        refine w_iconst (v := 2) s195_422 rfl ?_
        refine w_iaddN (x := (6 * n)) (y := 2) s195_423 ?_
        refine w_iald0 (v := xs ((6 * n) + 2)) s195_424 hsc (am_inb (show ((6 * n) + 2) < L by omega) (by omega)) (by rw [nI_clamp (show ((6 * n) + 2) < 2 ^ 31 by omega)]) ?_
        refine w_callV2 s195_425 hx.o ow46 mc195_46 rfl rfl (c46 hx iv _ _) ?_
        rintro v h1 ⟨rfl, P1, D1, hx1⟩
        replace hw := hw.xf hx1.1
        replace hsc := (hx1.1.2.2.2.2.1 0 (Or.inl (by decide))).trans hsc
        show am_wp _ (_, _, Value.int _ :: _) _ _
        refine w_aload_n s195_428 rfl ?_
        refine w_aload_n s195_429 rfl ?_
        refine w_iload_n s195_430 rfl ?_
        refine w_iconst (v := 1) s195_431 rfl ?_
        refine w_iaddN (x := (6 * n)) (y := 1) s195_432 ?_
        refine w_iald0 (v := xs ((6 * n) + 1)) s195_433 hsc (am_inb (show ((6 * n) + 1) < L by omega) (by omega)) (by rw [nI_clamp (show ((6 * n) + 1) < 2 ^ 31 by omega)]) ?_
        refine w_aload_n s195_434 rfl ?_
        refine w_iload_n s195_435 rfl ?_
        refine w_iconst (v := 2) s195_436 rfl ?_
        refine w_iaddN (x := (6 * n)) (y := 2) s195_437 ?_
        refine w_iald0 (v := xs ((6 * n) + 2)) s195_438 hsc (am_inb (show ((6 * n) + 2) < L by omega) (by omega)) (by rw [nI_clamp (show ((6 * n) + 2) < 2 ^ 31 by omega)]) ?_
        refine w_callV2 s195_439 (hw 0 _ rfl) ow119 mc195_119 rfl rfl (c119 hw iv _ _) ?_
        rintro v h2 ⟨rfl, hw2, fr2⟩
        show am_wp _ (_, _, Value.int _ :: _) _ _
        refine w_icmpeq s195_442 rfl  (fun c442 => ?_) (fun c => False.elim (c rfl))
        refine w_iinc s195_1388 rfl (show nI (6 * n) + Int32.ofInt 6 = nI (6 * (n + 1)) from nI_add _ 6) rfl ?_
        show am_wp _ (_, [_, _, _, _], _) _ _
        refine w_goto s195_1391 rfl ?_
        exact ihn (by omega) _ _ _ (x_G_m hg hx1 hw2 fr2 (iv_S_sheet iv _ _))
      · skip
        have hj4 : op = 7 := hj3
        clear hj3
        subst hj4
        refine w_tswI (n := 7) s195_33 (by decide) rfl rfl rfl ?_
        refine w_aload_n s195_447 rfl ?_
        refine w_aload_n s195_448 rfl ?_
        refine w_iload_n s195_449 rfl ?_
        refine w_iconst (v := 1) s195_450 rfl ?_
        refine w_iaddN (x := (6 * n)) (y := 1) s195_451 ?_
        refine w_iald0 (v := xs ((6 * n) + 1)) s195_452 hsc (am_inb (show ((6 * n) + 1) < L by omega) (by omega)) (by rw [nI_clamp (show ((6 * n) + 1) < 2 ^ 31 by omega)]) ?_
        refine w_aload_n s195_453 rfl ?_
        refine w_iload_n s195_454 rfl ?_
        refine w_iconst (v := 2) s195_455 rfl ?_
        refine w_iaddN (x := (6 * n)) (y := 2) s195_456 ?_
        refine w_iald0 (v := xs ((6 * n) + 2)) s195_457 hsc (am_inb (show ((6 * n) + 2) < L by omega) (by omega)) (by rw [nI_clamp (show ((6 * n) + 2) < 2 ^ 31 by omega)]) ?_
        refine w_aload_n s195_458 rfl ?_
        refine w_iload_n s195_459 rfl ?_
        refine w_iconst (v := 3) s195_460 rfl ?_
        refine w_iaddN (x := (6 * n)) (y := 3) s195_461 ?_
        refine w_iald0 (v := xs ((6 * n) + 3)) s195_462 hsc (am_inb (show ((6 * n) + 3) < L by omega) (by omega)) (by rw [nI_clamp (show ((6 * n) + 3) < 2 ^ 31 by omega)]) ?_
        refine w_callV3 s195_463 hx.o ow47 mc195_47 rfl rfl (c47 hx iv _ _ _) ?_
        rintro v h1 ⟨rfl, P1, D1, hx1⟩
        replace hw := hw.xf hx1.1
        replace hsc := (hx1.1.2.2.2.2.1 0 (Or.inl (by decide))).trans hsc
        show am_wp _ (_, _, Value.int _ :: _) _ _
        refine w_aload_n s195_466 rfl ?_
        refine w_aload_n s195_467 rfl ?_
        refine w_iload_n s195_468 rfl ?_
        refine w_iconst (v := 1) s195_469 rfl ?_
        refine w_iaddN (x := (6 * n)) (y := 1) s195_470 ?_
        refine w_iald0 (v := xs ((6 * n) + 1)) s195_471 hsc (am_inb (show ((6 * n) + 1) < L by omega) (by omega)) (by rw [nI_clamp (show ((6 * n) + 1) < 2 ^ 31 by omega)]) ?_
        refine w_aload_n s195_472 rfl ?_
        refine w_iload_n s195_473 rfl ?_
        refine w_iconst (v := 2) s195_474 rfl ?_
        refine w_iaddN (x := (6 * n)) (y := 2) s195_475 ?_
        refine w_iald0 (v := xs ((6 * n) + 2)) s195_476 hsc (am_inb (show ((6 * n) + 2) < L by omega) (by omega)) (by rw [nI_clamp (show ((6 * n) + 2) < 2 ^ 31 by omega)]) ?_
        refine w_aload_n s195_477 rfl ?_
        refine w_iload_n s195_478 rfl ?_
        refine w_iconst (v := 3) s195_479 rfl ?_
        refine w_iaddN (x := (6 * n)) (y := 3) s195_480 ?_
        refine w_iald0 (v := xs ((6 * n) + 3)) s195_481 hsc (am_inb (show ((6 * n) + 3) < L by omega) (by omega)) (by rw [nI_clamp (show ((6 * n) + 3) < 2 ^ 31 by omega)]) ?_
        refine w_callV3 s195_482 (hw 0 _ rfl) ow120 mc195_120 rfl rfl (c120 hw iv _ _ _) ?_
        rintro v h2 ⟨rfl, hw2, fr2⟩
        show am_wp _ (_, _, Value.int _ :: _) _ _
        refine w_icmpeq s195_485 rfl  (fun c485 => ?_) (fun c => False.elim (c rfl))
        refine w_iinc s195_1388 rfl (show nI (6 * n) + Int32.ofInt 6 = nI (6 * (n + 1)) from nI_add _ 6) rfl ?_
        show am_wp _ (_, [_, _, _, _], _) _ _
        refine w_goto s195_1391 rfl ?_
        exact ihn (by omega) _ _ _ (x_G_m hg hx1 hw2 fr2 (iv_S_lay iv _ _ _))
      · skip
        have hj4 : op = 8 := hj3
        clear hj3
        subst hj4
        refine w_tswI (n := 8) s195_33 (by decide) rfl rfl rfl ?_
        refine w_aload_n s195_490 rfl ?_
        refine w_aload_n s195_491 rfl ?_
        refine w_iload_n s195_492 rfl ?_
        refine w_iconst (v := 1) s195_493 rfl ?_
        refine w_iaddN (x := (6 * n)) (y := 1) s195_494 ?_
        refine w_iald0 (v := xs ((6 * n) + 1)) s195_495 hsc (am_inb (show ((6 * n) + 1) < L by omega) (by omega)) (by rw [nI_clamp (show ((6 * n) + 1) < 2 ^ 31 by omega)]) ?_
        refine w_callV1 s195_496 hx.o ow48 mc195_48 rfl rfl (c48 hx iv _) ?_
        rintro v h1 ⟨rfl, P1, D1, hx1⟩
        replace hw := hw.xf hx1.1
        replace hsc := (hx1.1.2.2.2.2.1 0 (Or.inl (by decide))).trans hsc
        show am_wp _ (_, _, Value.int _ :: _) _ _
        refine w_aload_n s195_499 rfl ?_
        refine w_aload_n s195_500 rfl ?_
        refine w_iload_n s195_501 rfl ?_
        refine w_iconst (v := 1) s195_502 rfl ?_
        refine w_iaddN (x := (6 * n)) (y := 1) s195_503 ?_
        refine w_iald0 (v := xs ((6 * n) + 1)) s195_504 hsc (am_inb (show ((6 * n) + 1) < L by omega) (by omega)) (by rw [nI_clamp (show ((6 * n) + 1) < 2 ^ 31 by omega)]) ?_
        refine w_callV1 s195_505 (hw 0 _ rfl) ow121 mc195_121 rfl rfl (c121 hw iv _) ?_
        rintro v h2 ⟨rfl, hw2, fr2⟩
        show am_wp _ (_, _, Value.int _ :: _) _ _
        refine w_icmpeq s195_508 rfl  (fun c508 => ?_) (fun c => False.elim (c rfl))
        refine w_iinc s195_1388 rfl (show nI (6 * n) + Int32.ofInt 6 = nI (6 * (n + 1)) from nI_add _ 6) rfl ?_
        show am_wp _ (_, [_, _, _, _], _) _ _
        refine w_goto s195_1391 rfl ?_
        exact ihn (by omega) _ _ _ (x_G_m hg hx1 hw2 fr2 (iv_S_tear iv _))
      · skip
        have hj4 : op = 9 := hj3
        clear hj3
        subst hj4
        refine w_tswI (n := 9) s195_33 (by decide) rfl rfl rfl ?_
        refine w_aload_n s195_513 rfl ?_
        refine w_aload_n s195_514 rfl ?_
        refine w_iload_n s195_515 rfl ?_
        refine w_iconst (v := 1) s195_516 rfl ?_
        refine w_iaddN (x := (6 * n)) (y := 1) s195_517 ?_
        refine w_iald0 (v := xs ((6 * n) + 1)) s195_518 hsc (am_inb (show ((6 * n) + 1) < L by omega) (by omega)) (by rw [nI_clamp (show ((6 * n) + 1) < 2 ^ 31 by omega)]) ?_
        refine w_aload_n s195_519 rfl ?_
        refine w_iload_n s195_520 rfl ?_
        refine w_iconst (v := 2) s195_521 rfl ?_
        refine w_iaddN (x := (6 * n)) (y := 2) s195_522 ?_
        refine w_iald0 (v := xs ((6 * n) + 2)) s195_523 hsc (am_inb (show ((6 * n) + 2) < L by omega) (by omega)) (by rw [nI_clamp (show ((6 * n) + 2) < 2 ^ 31 by omega)]) ?_
        refine w_aload_n s195_524 rfl ?_
        refine w_iload_n s195_525 rfl ?_
        refine w_iconst (v := 3) s195_526 rfl ?_
        refine w_iaddN (x := (6 * n)) (y := 3) s195_527 ?_
        refine w_iald0 (v := xs ((6 * n) + 3)) s195_528 hsc (am_inb (show ((6 * n) + 3) < L by omega) (by omega)) (by rw [nI_clamp (show ((6 * n) + 3) < 2 ^ 31 by omega)]) ?_
        refine w_aload_n s195_529 rfl ?_
        refine w_iload_n s195_530 rfl ?_
        refine w_iconst (v := 4) s195_531 rfl ?_
        refine w_iaddN (x := (6 * n)) (y := 4) s195_532 ?_
        refine w_iald0 (v := xs ((6 * n) + 4)) s195_533 hsc (am_inb (show ((6 * n) + 4) < L by omega) (by omega)) (by rw [nI_clamp (show ((6 * n) + 4) < 2 ^ 31 by omega)]) ?_
        refine w_aload_n s195_534 rfl ?_
        refine w_iload_n s195_535 rfl ?_
        refine w_iconst (v := 5) s195_536 rfl ?_
        refine w_iaddN (x := (6 * n)) (y := 5) s195_537 ?_
        refine w_iald0 (v := xs ((6 * n) + 5)) s195_538 hsc (am_inb (show ((6 * n) + 5) < L by omega) (by omega)) (by rw [nI_clamp (show ((6 * n) + 5) < 2 ^ 31 by omega)]) ?_
        refine w_callV5 s195_539 hx.o ow49 mc195_49 rfl rfl (c49 hx iv _ _ _ _ _) ?_
        rintro v h1 ⟨rfl, P1, D1, hx1⟩
        replace hw := hw.xf hx1.1
        replace hsc := (hx1.1.2.2.2.2.1 0 (Or.inl (by decide))).trans hsc
        show am_wp _ (_, _, Value.int _ :: _) _ _
        refine w_aload_n s195_542 rfl ?_
        refine w_aload_n s195_543 rfl ?_
        refine w_iload_n s195_544 rfl ?_
        refine w_iconst (v := 1) s195_545 rfl ?_
        refine w_iaddN (x := (6 * n)) (y := 1) s195_546 ?_
        refine w_iald0 (v := xs ((6 * n) + 1)) s195_547 hsc (am_inb (show ((6 * n) + 1) < L by omega) (by omega)) (by rw [nI_clamp (show ((6 * n) + 1) < 2 ^ 31 by omega)]) ?_
        refine w_aload_n s195_548 rfl ?_
        refine w_iload_n s195_549 rfl ?_
        refine w_iconst (v := 2) s195_550 rfl ?_
        refine w_iaddN (x := (6 * n)) (y := 2) s195_551 ?_
        refine w_iald0 (v := xs ((6 * n) + 2)) s195_552 hsc (am_inb (show ((6 * n) + 2) < L by omega) (by omega)) (by rw [nI_clamp (show ((6 * n) + 2) < 2 ^ 31 by omega)]) ?_
        refine w_aload_n s195_553 rfl ?_
        refine w_iload_n s195_554 rfl ?_
        refine w_iconst (v := 3) s195_555 rfl ?_
        refine w_iaddN (x := (6 * n)) (y := 3) s195_556 ?_
        refine w_iald0 (v := xs ((6 * n) + 3)) s195_557 hsc (am_inb (show ((6 * n) + 3) < L by omega) (by omega)) (by rw [nI_clamp (show ((6 * n) + 3) < 2 ^ 31 by omega)]) ?_
        refine w_aload_n s195_558 rfl ?_
        refine w_iload_n s195_559 rfl ?_
        refine w_iconst (v := 4) s195_560 rfl ?_
        refine w_iaddN (x := (6 * n)) (y := 4) s195_561 ?_
        refine w_iald0 (v := xs ((6 * n) + 4)) s195_562 hsc (am_inb (show ((6 * n) + 4) < L by omega) (by omega)) (by rw [nI_clamp (show ((6 * n) + 4) < 2 ^ 31 by omega)]) ?_
        refine w_aload_n s195_563 rfl ?_
        refine w_iload_n s195_564 rfl ?_
        refine w_iconst (v := 5) s195_565 rfl ?_
        refine w_iaddN (x := (6 * n)) (y := 5) s195_566 ?_
        refine w_iald0 (v := xs ((6 * n) + 5)) s195_567 hsc (am_inb (show ((6 * n) + 5) < L by omega) (by omega)) (by rw [nI_clamp (show ((6 * n) + 5) < 2 ^ 31 by omega)]) ?_
        refine w_callV5 s195_568 (hw 0 _ rfl) ow122 mc195_122 rfl rfl (c122 hw iv _ _ _ _ _) ?_
        rintro v h2 ⟨rfl, hw2, fr2⟩
        show am_wp _ (_, _, Value.int _ :: _) _ _
        refine w_icmpeq s195_571 rfl  (fun c571 => ?_) (fun c => False.elim (c rfl))
        refine w_iinc s195_1388 rfl (show nI (6 * n) + Int32.ofInt 6 = nI (6 * (n + 1)) from nI_add _ 6) rfl ?_
        show am_wp _ (_, [_, _, _, _], _) _ _
        refine w_goto s195_1391 rfl ?_
        exact ihn (by omega) _ _ _ (x_G_m hg hx1 hw2 fr2 (iv_S_copy iv _ _ _ _ _))
      · skip
        have hj4 : op = 10 := hj3
        clear hj3
        subst hj4
        refine w_tswI (n := 10) s195_33 (by decide) rfl rfl rfl ?_
        refine w_aload_n s195_576 rfl ?_
        refine w_aload_n s195_577 rfl ?_
        refine w_iload_n s195_578 rfl ?_
        refine w_iconst (v := 1) s195_579 rfl ?_
        refine w_iaddN (x := (6 * n)) (y := 1) s195_580 ?_
        refine w_iald0 (v := xs ((6 * n) + 1)) s195_581 hsc (am_inb (show ((6 * n) + 1) < L by omega) (by omega)) (by rw [nI_clamp (show ((6 * n) + 1) < 2 ^ 31 by omega)]) ?_
        refine w_callV1 s195_582 hx.o ow50 mc195_50 rfl rfl (c50 hx iv _) ?_
        rintro v h1 ⟨rfl, P1, D1, hx1⟩
        replace hw := hw.xf hx1.1
        replace hsc := (hx1.1.2.2.2.2.1 0 (Or.inl (by decide))).trans hsc
        show am_wp _ (_, _, Value.int _ :: _) _ _
        refine w_aload_n s195_585 rfl ?_
        refine w_aload_n s195_586 rfl ?_
        refine w_iload_n s195_587 rfl ?_
        refine w_iconst (v := 1) s195_588 rfl ?_
        refine w_iaddN (x := (6 * n)) (y := 1) s195_589 ?_
        refine w_iald0 (v := xs ((6 * n) + 1)) s195_590 hsc (am_inb (show ((6 * n) + 1) < L by omega) (by omega)) (by rw [nI_clamp (show ((6 * n) + 1) < 2 ^ 31 by omega)]) ?_
        refine w_callV1 s195_591 (hw 0 _ rfl) ow129 mc195_129 rfl rfl (c129 hw iv _) ?_
        rintro v h2 ⟨rfl, hw2, fr2⟩
        show am_wp _ (_, _, Value.int _ :: _) _ _
        refine w_icmpeq s195_594 rfl  (fun c594 => ?_) (fun c => False.elim (c rfl))
        refine w_iinc s195_1388 rfl (show nI (6 * n) + Int32.ofInt 6 = nI (6 * (n + 1)) from nI_add _ 6) rfl ?_
        show am_wp _ (_, [_, _, _, _], _) _ _
        refine w_goto s195_1391 rfl ?_
        exact ihn (by omega) _ _ _ (x_G_m hg hx1 hw2 fr2 (iv_S_words iv _))
      · skip
        have hj4 : op = 11 := hj3
        clear hj3
        subst hj4
        refine w_tswI (n := 11) s195_33 (by decide) rfl rfl rfl ?_
        refine w_aload_n s195_599 rfl ?_
        refine w_aload_n s195_600 rfl ?_
        refine w_iload_n s195_601 rfl ?_
        refine w_iconst (v := 1) s195_602 rfl ?_
        refine w_iaddN (x := (6 * n)) (y := 1) s195_603 ?_
        refine w_iald0 (v := xs ((6 * n) + 1)) s195_604 hsc (am_inb (show ((6 * n) + 1) < L by omega) (by omega)) (by rw [nI_clamp (show ((6 * n) + 1) < 2 ^ 31 by omega)]) ?_
        refine w_callV1 s195_605 hx.o ow51 mc195_51 rfl rfl (c51 hx iv _) ?_
        rintro v h1 ⟨rfl, P1, D1, hx1⟩
        replace hw := hw.xf hx1.1
        replace hsc := (hx1.1.2.2.2.2.1 0 (Or.inl (by decide))).trans hsc
        show am_wp _ (_, _, Value.int _ :: _) _ _
        refine w_aload_n s195_608 rfl ?_
        refine w_aload_n s195_609 rfl ?_
        refine w_iload_n s195_610 rfl ?_
        refine w_iconst (v := 1) s195_611 rfl ?_
        refine w_iaddN (x := (6 * n)) (y := 1) s195_612 ?_
        refine w_iald0 (v := xs ((6 * n) + 1)) s195_613 hsc (am_inb (show ((6 * n) + 1) < L by omega) (by omega)) (by rw [nI_clamp (show ((6 * n) + 1) < 2 ^ 31 by omega)]) ?_
        refine w_callV1 s195_614 (hw 0 _ rfl) ow130 mc195_130 rfl rfl (c130 hw iv _) ?_
        rintro v h2 ⟨rfl, hw2, fr2⟩
        show am_wp _ (_, _, Value.int _ :: _) _ _
        refine w_icmpeq s195_617 rfl  (fun c617 => ?_) (fun c => False.elim (c rfl))
        refine w_iinc s195_1388 rfl (show nI (6 * n) + Int32.ofInt 6 = nI (6 * (n + 1)) from nI_add _ 6) rfl ?_
        show am_wp _ (_, [_, _, _, _], _) _ _
        refine w_goto s195_1391 rfl ?_
        exact ihn (by omega) _ _ _ (x_G_m hg hx1 hw2 fr2 (iv_S_bar iv _))
      · skip
        have hj4 : op = 12 := hj3
        clear hj3
        subst hj4
        refine w_tswI (n := 12) s195_33 (by decide) rfl rfl rfl ?_
        refine w_aload_n s195_622 rfl ?_
        refine w_aload_n s195_623 rfl ?_
        refine w_iload_n s195_624 rfl ?_
        refine w_iconst (v := 1) s195_625 rfl ?_
        refine w_iaddN (x := (6 * n)) (y := 1) s195_626 ?_
        refine w_iald0 (v := xs ((6 * n) + 1)) s195_627 hsc (am_inb (show ((6 * n) + 1) < L by omega) (by omega)) (by rw [nI_clamp (show ((6 * n) + 1) < 2 ^ 31 by omega)]) ?_
        refine w_callV1 s195_628 hx.o ow52 mc195_52 rfl rfl (c52 hx iv _) ?_
        rintro v h1 ⟨rfl, P1, D1, hx1⟩
        replace hw := hw.xf hx1.1
        replace hsc := (hx1.1.2.2.2.2.1 0 (Or.inl (by decide))).trans hsc
        show am_wp _ (_, _, Value.int _ :: _) _ _
        refine w_aload_n s195_631 rfl ?_
        refine w_aload_n s195_632 rfl ?_
        refine w_iload_n s195_633 rfl ?_
        refine w_iconst (v := 1) s195_634 rfl ?_
        refine w_iaddN (x := (6 * n)) (y := 1) s195_635 ?_
        refine w_iald0 (v := xs ((6 * n) + 1)) s195_636 hsc (am_inb (show ((6 * n) + 1) < L by omega) (by omega)) (by rw [nI_clamp (show ((6 * n) + 1) < 2 ^ 31 by omega)]) ?_
        refine w_callV1 s195_637 (hw 0 _ rfl) ow132 mc195_132 rfl rfl (c132 hw iv _) ?_
        rintro v h2 ⟨rfl, hw2, fr2⟩
        show am_wp _ (_, _, Value.int _ :: _) _ _
        refine w_icmpeq s195_640 rfl  (fun c640 => ?_) (fun c => False.elim (c rfl))
        refine w_iinc s195_1388 rfl (show nI (6 * n) + Int32.ofInt 6 = nI (6 * (n + 1)) from nI_add _ 6) rfl ?_
        show am_wp _ (_, [_, _, _, _], _) _ _
        refine w_goto s195_1391 rfl ?_
        exact ihn (by omega) _ _ _ (x_G_m hg hx1 hw2 fr2 (iv_S_barred iv _))
      · skip
        have hj4 : op = 13 := hj3
        clear hj3
        subst hj4
        refine w_tswI (n := 13) s195_33 (by decide) rfl rfl rfl ?_
        refine w_aload_n s195_645 rfl ?_
        refine w_aload_n s195_646 rfl ?_
        refine w_iload_n s195_647 rfl ?_
        refine w_iconst (v := 1) s195_648 rfl ?_
        refine w_iaddN (x := (6 * n)) (y := 1) s195_649 ?_
        refine w_iald0 (v := xs ((6 * n) + 1)) s195_650 hsc (am_inb (show ((6 * n) + 1) < L by omega) (by omega)) (by rw [nI_clamp (show ((6 * n) + 1) < 2 ^ 31 by omega)]) ?_
        refine w_aload_n s195_651 rfl ?_
        refine w_iload_n s195_652 rfl ?_
        refine w_iconst (v := 2) s195_653 rfl ?_
        refine w_iaddN (x := (6 * n)) (y := 2) s195_654 ?_
        refine w_iald0 (v := xs ((6 * n) + 2)) s195_655 hsc (am_inb (show ((6 * n) + 2) < L by omega) (by omega)) (by rw [nI_clamp (show ((6 * n) + 2) < 2 ^ 31 by omega)]) ?_
        refine w_callV2 s195_656 hx.o ow53 mc195_53 rfl rfl (c53 hx iv _ _) ?_
        rintro v h1 ⟨rfl, P1, D1, hx1⟩
        replace hw := hw.xf hx1.1
        replace hsc := (hx1.1.2.2.2.2.1 0 (Or.inl (by decide))).trans hsc
        show am_wp _ (_, _, Value.int _ :: _) _ _
        refine w_aload_n s195_659 rfl ?_
        refine w_aload_n s195_660 rfl ?_
        refine w_iload_n s195_661 rfl ?_
        refine w_iconst (v := 1) s195_662 rfl ?_
        refine w_iaddN (x := (6 * n)) (y := 1) s195_663 ?_
        refine w_iald0 (v := xs ((6 * n) + 1)) s195_664 hsc (am_inb (show ((6 * n) + 1) < L by omega) (by omega)) (by rw [nI_clamp (show ((6 * n) + 1) < 2 ^ 31 by omega)]) ?_
        refine w_aload_n s195_665 rfl ?_
        refine w_iload_n s195_666 rfl ?_
        refine w_iconst (v := 2) s195_667 rfl ?_
        refine w_iaddN (x := (6 * n)) (y := 2) s195_668 ?_
        refine w_iald0 (v := xs ((6 * n) + 2)) s195_669 hsc (am_inb (show ((6 * n) + 2) < L by omega) (by omega)) (by rw [nI_clamp (show ((6 * n) + 2) < 2 ^ 31 by omega)]) ?_
        refine w_callV2 s195_670 (hw 0 _ rfl) ow133 mc195_133 rfl rfl (c133 hw iv _ _) ?_
        rintro v h2 ⟨rfl, hw2, fr2⟩
        show am_wp _ (_, _, Value.int _ :: _) _ _
        refine w_icmpeq s195_673 rfl  (fun c673 => ?_) (fun c => False.elim (c rfl))
        refine w_iinc s195_1388 rfl (show nI (6 * n) + Int32.ofInt 6 = nI (6 * (n + 1)) from nI_add _ 6) rfl ?_
        show am_wp _ (_, [_, _, _, _], _) _ _
        refine w_goto s195_1391 rfl ?_
        exact ihn (by omega) _ _ _ (x_G_m hg hx1 hw2 fr2 (iv_S_rate iv _ _))
      · skip
        have hj4 : op = 14 := hj3
        clear hj3
        subst hj4
        refine w_tswI (n := 14) s195_33 (by decide) rfl rfl rfl ?_
        refine w_aload_n s195_678 rfl ?_
        refine w_aload_n s195_679 rfl ?_
        refine w_iload_n s195_680 rfl ?_
        refine w_iconst (v := 1) s195_681 rfl ?_
        refine w_iaddN (x := (6 * n)) (y := 1) s195_682 ?_
        refine w_iald0 (v := xs ((6 * n) + 1)) s195_683 hsc (am_inb (show ((6 * n) + 1) < L by omega) (by omega)) (by rw [nI_clamp (show ((6 * n) + 1) < 2 ^ 31 by omega)]) ?_
        refine w_aload_n s195_684 rfl ?_
        refine w_iload_n s195_685 rfl ?_
        refine w_iconst (v := 2) s195_686 rfl ?_
        refine w_iaddN (x := (6 * n)) (y := 2) s195_687 ?_
        refine w_iald0 (v := xs ((6 * n) + 2)) s195_688 hsc (am_inb (show ((6 * n) + 2) < L by omega) (by omega)) (by rw [nI_clamp (show ((6 * n) + 2) < 2 ^ 31 by omega)]) ?_
        refine w_aload_n s195_689 rfl ?_
        refine w_iload_n s195_690 rfl ?_
        refine w_iconst (v := 3) s195_691 rfl ?_
        refine w_iaddN (x := (6 * n)) (y := 3) s195_692 ?_
        refine w_iald0 (v := xs ((6 * n) + 3)) s195_693 hsc (am_inb (show ((6 * n) + 3) < L by omega) (by omega)) (by rw [nI_clamp (show ((6 * n) + 3) < 2 ^ 31 by omega)]) ?_
        refine w_aload_n s195_694 rfl ?_
        refine w_iload_n s195_695 rfl ?_
        refine w_iconst (v := 4) s195_696 rfl ?_
        refine w_iaddN (x := (6 * n)) (y := 4) s195_697 ?_
        refine w_iald0 (v := xs ((6 * n) + 4)) s195_698 hsc (am_inb (show ((6 * n) + 4) < L by omega) (by omega)) (by rw [nI_clamp (show ((6 * n) + 4) < 2 ^ 31 by omega)]) ?_
        refine w_aload_n s195_699 rfl ?_
        refine w_iload_n s195_700 rfl ?_
        refine w_iconst (v := 5) s195_701 rfl ?_
        refine w_iaddN (x := (6 * n)) (y := 5) s195_702 ?_
        refine w_iald0 (v := xs ((6 * n) + 5)) s195_703 hsc (am_inb (show ((6 * n) + 5) < L by omega) (by omega)) (by rw [nI_clamp (show ((6 * n) + 5) < 2 ^ 31 by omega)]) ?_
        refine w_callV5 s195_704 hx.o ow54 mc195_54 rfl rfl (c54 hx iv _ _ _ _ _) ?_
        rintro v h1 ⟨rfl, P1, D1, hx1⟩
        replace hw := hw.xf hx1.1
        replace hsc := (hx1.1.2.2.2.2.1 0 (Or.inl (by decide))).trans hsc
        show am_wp _ (_, _, Value.int _ :: _) _ _
        refine w_aload_n s195_707 rfl ?_
        refine w_aload_n s195_708 rfl ?_
        refine w_iload_n s195_709 rfl ?_
        refine w_iconst (v := 1) s195_710 rfl ?_
        refine w_iaddN (x := (6 * n)) (y := 1) s195_711 ?_
        refine w_iald0 (v := xs ((6 * n) + 1)) s195_712 hsc (am_inb (show ((6 * n) + 1) < L by omega) (by omega)) (by rw [nI_clamp (show ((6 * n) + 1) < 2 ^ 31 by omega)]) ?_
        refine w_aload_n s195_713 rfl ?_
        refine w_iload_n s195_714 rfl ?_
        refine w_iconst (v := 2) s195_715 rfl ?_
        refine w_iaddN (x := (6 * n)) (y := 2) s195_716 ?_
        refine w_iald0 (v := xs ((6 * n) + 2)) s195_717 hsc (am_inb (show ((6 * n) + 2) < L by omega) (by omega)) (by rw [nI_clamp (show ((6 * n) + 2) < 2 ^ 31 by omega)]) ?_
        refine w_aload_n s195_718 rfl ?_
        refine w_iload_n s195_719 rfl ?_
        refine w_iconst (v := 3) s195_720 rfl ?_
        refine w_iaddN (x := (6 * n)) (y := 3) s195_721 ?_
        refine w_iald0 (v := xs ((6 * n) + 3)) s195_722 hsc (am_inb (show ((6 * n) + 3) < L by omega) (by omega)) (by rw [nI_clamp (show ((6 * n) + 3) < 2 ^ 31 by omega)]) ?_
        refine w_aload_n s195_723 rfl ?_
        refine w_iload_n s195_724 rfl ?_
        refine w_iconst (v := 4) s195_725 rfl ?_
        refine w_iaddN (x := (6 * n)) (y := 4) s195_726 ?_
        refine w_iald0 (v := xs ((6 * n) + 4)) s195_727 hsc (am_inb (show ((6 * n) + 4) < L by omega) (by omega)) (by rw [nI_clamp (show ((6 * n) + 4) < 2 ^ 31 by omega)]) ?_
        refine w_aload_n s195_728 rfl ?_
        refine w_iload_n s195_729 rfl ?_
        refine w_iconst (v := 5) s195_730 rfl ?_
        refine w_iaddN (x := (6 * n)) (y := 5) s195_731 ?_
        refine w_iald0 (v := xs ((6 * n) + 5)) s195_732 hsc (am_inb (show ((6 * n) + 5) < L by omega) (by omega)) (by rw [nI_clamp (show ((6 * n) + 5) < 2 ^ 31 by omega)]) ?_
        refine w_callV5 s195_733 (hw 0 _ rfl) ow137 mc195_137 rfl rfl (c137 hw iv _ _ _ _ _) ?_
        rintro v h2 ⟨rfl, hw2, fr2⟩
        show am_wp _ (_, _, Value.int _ :: _) _ _
        refine w_icmpeq s195_736 rfl  (fun c736 => ?_) (fun c => False.elim (c rfl))
        refine w_iinc s195_1388 rfl (show nI (6 * n) + Int32.ofInt 6 = nI (6 * (n + 1)) from nI_add _ 6) rfl ?_
        show am_wp _ (_, [_, _, _, _], _) _ _
        refine w_goto s195_1391 rfl ?_
        exact ihn (by omega) _ _ _ (x_G_m hg hx1 hw2 fr2 (iv_S_notice iv _ _ _ _ _))
      · skip
        have hj4 : op = 15 := hj3
        clear hj3
        subst hj4
        refine w_tswI (n := 15) s195_33 (by decide) rfl rfl rfl ?_
        refine w_aload_n s195_741 rfl ?_
        refine w_aload_n s195_742 rfl ?_
        refine w_iload_n s195_743 rfl ?_
        refine w_iconst (v := 1) s195_744 rfl ?_
        refine w_iaddN (x := (6 * n)) (y := 1) s195_745 ?_
        refine w_iald0 (v := xs ((6 * n) + 1)) s195_746 hsc (am_inb (show ((6 * n) + 1) < L by omega) (by omega)) (by rw [nI_clamp (show ((6 * n) + 1) < 2 ^ 31 by omega)]) ?_
        refine w_aload_n s195_747 rfl ?_
        refine w_iload_n s195_748 rfl ?_
        refine w_iconst (v := 2) s195_749 rfl ?_
        refine w_iaddN (x := (6 * n)) (y := 2) s195_750 ?_
        refine w_iald0 (v := xs ((6 * n) + 2)) s195_751 hsc (am_inb (show ((6 * n) + 2) < L by omega) (by omega)) (by rw [nI_clamp (show ((6 * n) + 2) < 2 ^ 31 by omega)]) ?_
        refine w_callV2r s195_752 hx.o ow55 mc195_55 rfl rfl (c55 hx iv _ _) ?_
        refine w_aload_n s195_755 rfl ?_
        refine w_aload_n s195_756 rfl ?_
        refine w_iload_n s195_757 rfl ?_
        refine w_iconst (v := 1) s195_758 rfl ?_
        refine w_iaddN (x := (6 * n)) (y := 1) s195_759 ?_
        refine w_iald0 (v := xs ((6 * n) + 1)) s195_760 hsc (am_inb (show ((6 * n) + 1) < L by omega) (by omega)) (by rw [nI_clamp (show ((6 * n) + 1) < 2 ^ 31 by omega)]) ?_
        refine w_aload_n s195_761 rfl ?_
        refine w_iload_n s195_762 rfl ?_
        refine w_iconst (v := 2) s195_763 rfl ?_
        refine w_iaddN (x := (6 * n)) (y := 2) s195_764 ?_
        refine w_iald0 (v := xs ((6 * n) + 2)) s195_765 hsc (am_inb (show ((6 * n) + 2) < L by omega) (by omega)) (by rw [nI_clamp (show ((6 * n) + 2) < 2 ^ 31 by omega)]) ?_
        refine w_callV2r s195_766 (hw 0 _ rfl) ow141 mc195_141 rfl rfl (c141 hw iv _ _) ?_
        refine w_icmpeq s195_769 rfl  (fun c769 => ?_) (fun c => False.elim (c rfl))
        refine w_iinc s195_1388 rfl (show nI (6 * n) + Int32.ofInt 6 = nI (6 * (n + 1)) from nI_add _ 6) rfl ?_
        show am_wp _ (_, [_, _, _, _], _) _ _
        refine w_goto s195_1391 rfl ?_
        exact ihn (by omega) _ _ _ (x_G_r hg)
      · skip
        have hj4 : op = 16 := hj3
        clear hj3
        subst hj4
        refine w_tswI (n := 16) s195_33 (by decide) rfl rfl rfl ?_
        refine w_aload_n s195_774 rfl ?_
        refine w_aload_n s195_775 rfl ?_
        refine w_iload_n s195_776 rfl ?_
        refine w_iconst (v := 1) s195_777 rfl ?_
        refine w_iaddN (x := (6 * n)) (y := 1) s195_778 ?_
        refine w_iald0 (v := xs ((6 * n) + 1)) s195_779 hsc (am_inb (show ((6 * n) + 1) < L by omega) (by omega)) (by rw [nI_clamp (show ((6 * n) + 1) < 2 ^ 31 by omega)]) ?_
        refine w_aload_n s195_780 rfl ?_
        refine w_iload_n s195_781 rfl ?_
        refine w_iconst (v := 2) s195_782 rfl ?_
        refine w_iaddN (x := (6 * n)) (y := 2) s195_783 ?_
        refine w_iald0 (v := xs ((6 * n) + 2)) s195_784 hsc (am_inb (show ((6 * n) + 2) < L by omega) (by omega)) (by rw [nI_clamp (show ((6 * n) + 2) < 2 ^ 31 by omega)]) ?_
        refine w_callV2 s195_785 hx.o ow56 mc195_56 rfl rfl (c56 hx iv _ _) ?_
        rintro v h1 ⟨rfl, P1, D1, hx1⟩
        replace hw := hw.xf hx1.1
        replace hsc := (hx1.1.2.2.2.2.1 0 (Or.inl (by decide))).trans hsc
        show am_wp _ (_, _, Value.int _ :: _) _ _
        refine w_aload_n s195_788 rfl ?_
        refine w_aload_n s195_789 rfl ?_
        refine w_iload_n s195_790 rfl ?_
        refine w_iconst (v := 1) s195_791 rfl ?_
        refine w_iaddN (x := (6 * n)) (y := 1) s195_792 ?_
        refine w_iald0 (v := xs ((6 * n) + 1)) s195_793 hsc (am_inb (show ((6 * n) + 1) < L by omega) (by omega)) (by rw [nI_clamp (show ((6 * n) + 1) < 2 ^ 31 by omega)]) ?_
        refine w_aload_n s195_794 rfl ?_
        refine w_iload_n s195_795 rfl ?_
        refine w_iconst (v := 2) s195_796 rfl ?_
        refine w_iaddN (x := (6 * n)) (y := 2) s195_797 ?_
        refine w_iald0 (v := xs ((6 * n) + 2)) s195_798 hsc (am_inb (show ((6 * n) + 2) < L by omega) (by omega)) (by rw [nI_clamp (show ((6 * n) + 2) < 2 ^ 31 by omega)]) ?_
        refine w_callV2 s195_799 (hw 0 _ rfl) ow144 mc195_144 rfl rfl (c144 hw iv _ _) ?_
        rintro v h2 ⟨rfl, hw2, fr2⟩
        show am_wp _ (_, _, Value.int _ :: _) _ _
        refine w_icmpeq s195_802 rfl  (fun c802 => ?_) (fun c => False.elim (c rfl))
        refine w_iinc s195_1388 rfl (show nI (6 * n) + Int32.ofInt 6 = nI (6 * (n + 1)) from nI_add _ 6) rfl ?_
        show am_wp _ (_, [_, _, _, _], _) _ _
        refine w_goto s195_1391 rfl ?_
        exact ihn (by omega) _ _ _ (x_G_m hg hx1 hw2 fr2 (iv_S_mark iv _ _))
      · skip
        have hj4 : op = 17 := hj3
        clear hj3
        subst hj4
        refine w_tswI (n := 17) s195_33 (by decide) rfl rfl rfl ?_
        refine w_aload_n s195_807 rfl ?_
        refine w_aload_n s195_808 rfl ?_
        refine w_iload_n s195_809 rfl ?_
        refine w_iconst (v := 1) s195_810 rfl ?_
        refine w_iaddN (x := (6 * n)) (y := 1) s195_811 ?_
        refine w_iald0 (v := xs ((6 * n) + 1)) s195_812 hsc (am_inb (show ((6 * n) + 1) < L by omega) (by omega)) (by rw [nI_clamp (show ((6 * n) + 1) < 2 ^ 31 by omega)]) ?_
        refine w_callV1r s195_813 hx.o ow57 mc195_57 rfl rfl (c57 hx iv _) ?_
        refine w_aload_n s195_816 rfl ?_
        refine w_aload_n s195_817 rfl ?_
        refine w_iload_n s195_818 rfl ?_
        refine w_iconst (v := 1) s195_819 rfl ?_
        refine w_iaddN (x := (6 * n)) (y := 1) s195_820 ?_
        refine w_iald0 (v := xs ((6 * n) + 1)) s195_821 hsc (am_inb (show ((6 * n) + 1) < L by omega) (by omega)) (by rw [nI_clamp (show ((6 * n) + 1) < 2 ^ 31 by omega)]) ?_
        refine w_callV1r s195_822 (hw 0 _ rfl) ow145 mc195_145 rfl rfl (c145 hw iv _) ?_
        refine w_icmpeq s195_825 rfl  (fun c825 => ?_) (fun c => False.elim (c rfl))
        refine w_iinc s195_1388 rfl (show nI (6 * n) + Int32.ofInt 6 = nI (6 * (n + 1)) from nI_add _ 6) rfl ?_
        show am_wp _ (_, [_, _, _, _], _) _ _
        refine w_goto s195_1391 rfl ?_
        exact ihn (by omega) _ _ _ (x_G_r hg)
      · skip
        have hj4 : op = 18 := hj3
        clear hj3
        subst hj4
        refine w_tswI (n := 18) s195_33 (by decide) rfl rfl rfl ?_
        refine w_aload_n s195_830 rfl ?_
        refine w_callV0 s195_831 hx.o ow58 mc195_58 rfl rfl (c58 hx iv) ?_
        rintro v h1 ⟨rfl, P1, D1, hx1⟩
        replace hw := hw.xf hx1.1
        replace hsc := (hx1.1.2.2.2.2.1 0 (Or.inl (by decide))).trans hsc
        show am_wp _ (_, _, Value.int _ :: _) _ _
        refine w_aload_n s195_834 rfl ?_
        refine w_callV0 s195_835 (hw 0 _ rfl) ow146 mc195_146 rfl rfl (c146 hw iv) ?_
        rintro v h2 ⟨rfl, hw2, fr2⟩
        show am_wp _ (_, _, Value.int _ :: _) _ _
        refine w_icmpeq s195_838 rfl  (fun c838 => ?_) (fun c => False.elim (c rfl))
        refine w_iinc s195_1388 rfl (show nI (6 * n) + Int32.ofInt 6 = nI (6 * (n + 1)) from nI_add _ 6) rfl ?_
        show am_wp _ (_, [_, _, _, _], _) _ _
        refine w_goto s195_1391 rfl ?_
        exact ihn (by omega) _ _ _ (x_G_m hg hx1 hw2 fr2 (iv_S_mean iv))
      · skip
        have hj4 : op = 19 := hj3
        clear hj3
        subst hj4
        refine w_tswI (n := 19) s195_33 (by decide) rfl rfl rfl ?_
        refine w_aload_n s195_843 rfl ?_
        refine w_aload_n s195_844 rfl ?_
        refine w_iload_n s195_845 rfl ?_
        refine w_iconst (v := 1) s195_846 rfl ?_
        refine w_iaddN (x := (6 * n)) (y := 1) s195_847 ?_
        refine w_iald0 (v := xs ((6 * n) + 1)) s195_848 hsc (am_inb (show ((6 * n) + 1) < L by omega) (by omega)) (by rw [nI_clamp (show ((6 * n) + 1) < 2 ^ 31 by omega)]) ?_
        refine w_callV1 s195_849 hx.o ow59 mc195_59 rfl rfl (c59 hx iv _) ?_
        rintro v h1 ⟨rfl, P1, D1, hx1⟩
        replace hw := hw.xf hx1.1
        replace hsc := (hx1.1.2.2.2.2.1 0 (Or.inl (by decide))).trans hsc
        show am_wp _ (_, _, Value.int _ :: _) _ _
        refine w_aload_n s195_852 rfl ?_
        refine w_aload_n s195_853 rfl ?_
        refine w_iload_n s195_854 rfl ?_
        refine w_iconst (v := 1) s195_855 rfl ?_
        refine w_iaddN (x := (6 * n)) (y := 1) s195_856 ?_
        refine w_iald0 (v := xs ((6 * n) + 1)) s195_857 hsc (am_inb (show ((6 * n) + 1) < L by omega) (by omega)) (by rw [nI_clamp (show ((6 * n) + 1) < 2 ^ 31 by omega)]) ?_
        refine w_callV1 s195_858 (hw 0 _ rfl) ow147 mc195_147 rfl rfl (c147 hw iv _) ?_
        rintro v h2 ⟨rfl, hw2, fr2⟩
        show am_wp _ (_, _, Value.int _ :: _) _ _
        refine w_icmpeq s195_861 rfl  (fun c861 => ?_) (fun c => False.elim (c rfl))
        refine w_iinc s195_1388 rfl (show nI (6 * n) + Int32.ofInt 6 = nI (6 * (n + 1)) from nI_add _ 6) rfl ?_
        show am_wp _ (_, [_, _, _, _], _) _ _
        refine w_goto s195_1391 rfl ?_
        exact ihn (by omega) _ _ _ (x_G_m hg hx1 hw2 fr2 (iv_S_back iv _))
      · skip
        have hj4 : op = 20 := hj3
        clear hj3
        subst hj4
        refine w_tswI (n := 20) s195_33 (by decide) rfl rfl rfl ?_
        refine w_aload_n s195_866 rfl ?_
        refine w_aload_n s195_867 rfl ?_
        refine w_iload_n s195_868 rfl ?_
        refine w_iconst (v := 1) s195_869 rfl ?_
        refine w_iaddN (x := (6 * n)) (y := 1) s195_870 ?_
        refine w_iald0 (v := xs ((6 * n) + 1)) s195_871 hsc (am_inb (show ((6 * n) + 1) < L by omega) (by omega)) (by rw [nI_clamp (show ((6 * n) + 1) < 2 ^ 31 by omega)]) ?_
        refine w_callV1 s195_872 hx.o ow60 mc195_60 rfl rfl (c60 hx iv _) ?_
        rintro v h1 ⟨rfl, P1, D1, hx1⟩
        replace hw := hw.xf hx1.1
        replace hsc := (hx1.1.2.2.2.2.1 0 (Or.inl (by decide))).trans hsc
        show am_wp _ (_, _, Value.int _ :: _) _ _
        refine w_aload_n s195_875 rfl ?_
        refine w_aload_n s195_876 rfl ?_
        refine w_iload_n s195_877 rfl ?_
        refine w_iconst (v := 1) s195_878 rfl ?_
        refine w_iaddN (x := (6 * n)) (y := 1) s195_879 ?_
        refine w_iald0 (v := xs ((6 * n) + 1)) s195_880 hsc (am_inb (show ((6 * n) + 1) < L by omega) (by omega)) (by rw [nI_clamp (show ((6 * n) + 1) < 2 ^ 31 by omega)]) ?_
        refine w_callV1 s195_881 (hw 0 _ rfl) ow149 mc195_149 rfl rfl (c149 hw iv _) ?_
        rintro v h2 ⟨rfl, hw2, fr2⟩
        show am_wp _ (_, _, Value.int _ :: _) _ _
        refine w_icmpeq s195_884 rfl  (fun c884 => ?_) (fun c => False.elim (c rfl))
        refine w_iinc s195_1388 rfl (show nI (6 * n) + Int32.ofInt 6 = nI (6 * (n + 1)) from nI_add _ 6) rfl ?_
        show am_wp _ (_, [_, _, _, _], _) _ _
        refine w_goto s195_1391 rfl ?_
        exact ihn (by omega) _ _ _ (x_G_m hg hx1 hw2 fr2 (iv_S_crier iv _))
      · skip
        have hj4 : op = 21 := hj3
        clear hj3
        subst hj4
        refine w_tswI (n := 21) s195_33 (by decide) rfl rfl rfl ?_
        refine w_aload_n s195_889 rfl ?_
        refine w_aload_n s195_890 rfl ?_
        refine w_iload_n s195_891 rfl ?_
        refine w_iconst (v := 1) s195_892 rfl ?_
        refine w_iaddN (x := (6 * n)) (y := 1) s195_893 ?_
        refine w_iald0 (v := xs ((6 * n) + 1)) s195_894 hsc (am_inb (show ((6 * n) + 1) < L by omega) (by omega)) (by rw [nI_clamp (show ((6 * n) + 1) < 2 ^ 31 by omega)]) ?_
        refine w_aload_n s195_895 rfl ?_
        refine w_iload_n s195_896 rfl ?_
        refine w_iconst (v := 2) s195_897 rfl ?_
        refine w_iaddN (x := (6 * n)) (y := 2) s195_898 ?_
        refine w_iald0 (v := xs ((6 * n) + 2)) s195_899 hsc (am_inb (show ((6 * n) + 2) < L by omega) (by omega)) (by rw [nI_clamp (show ((6 * n) + 2) < 2 ^ 31 by omega)]) ?_
        refine w_callV2r s195_900 hx.o ow61 mc195_61 rfl rfl (c61 hx iv _ _) ?_
        refine w_aload_n s195_903 rfl ?_
        refine w_aload_n s195_904 rfl ?_
        refine w_iload_n s195_905 rfl ?_
        refine w_iconst (v := 1) s195_906 rfl ?_
        refine w_iaddN (x := (6 * n)) (y := 1) s195_907 ?_
        refine w_iald0 (v := xs ((6 * n) + 1)) s195_908 hsc (am_inb (show ((6 * n) + 1) < L by omega) (by omega)) (by rw [nI_clamp (show ((6 * n) + 1) < 2 ^ 31 by omega)]) ?_
        refine w_aload_n s195_909 rfl ?_
        refine w_iload_n s195_910 rfl ?_
        refine w_iconst (v := 2) s195_911 rfl ?_
        refine w_iaddN (x := (6 * n)) (y := 2) s195_912 ?_
        refine w_iald0 (v := xs ((6 * n) + 2)) s195_913 hsc (am_inb (show ((6 * n) + 2) < L by omega) (by omega)) (by rw [nI_clamp (show ((6 * n) + 2) < 2 ^ 31 by omega)]) ?_
        refine w_callV2r s195_914 (hw 0 _ rfl) ow151 mc195_151 rfl rfl (c151 hw iv _ _) ?_
        refine w_icmpeq s195_917 rfl  (fun c917 => ?_) (fun c => False.elim (c rfl))
        refine w_iinc s195_1388 rfl (show nI (6 * n) + Int32.ofInt 6 = nI (6 * (n + 1)) from nI_add _ 6) rfl ?_
        show am_wp _ (_, [_, _, _, _], _) _ _
        refine w_goto s195_1391 rfl ?_
        exact ihn (by omega) _ _ _ (x_G_r hg)
      · skip
        have hj4 : op = 22 := hj3
        clear hj3
        subst hj4
        refine w_tswI (n := 22) s195_33 (by decide) rfl rfl rfl ?_
        refine w_aload_n s195_922 rfl ?_
        refine w_aload_n s195_923 rfl ?_
        refine w_iload_n s195_924 rfl ?_
        refine w_iconst (v := 1) s195_925 rfl ?_
        refine w_iaddN (x := (6 * n)) (y := 1) s195_926 ?_
        refine w_iald0 (v := xs ((6 * n) + 1)) s195_927 hsc (am_inb (show ((6 * n) + 1) < L by omega) (by omega)) (by rw [nI_clamp (show ((6 * n) + 1) < 2 ^ 31 by omega)]) ?_
        refine w_aload_n s195_928 rfl ?_
        refine w_iload_n s195_929 rfl ?_
        refine w_iconst (v := 2) s195_930 rfl ?_
        refine w_iaddN (x := (6 * n)) (y := 2) s195_931 ?_
        refine w_iald0 (v := xs ((6 * n) + 2)) s195_932 hsc (am_inb (show ((6 * n) + 2) < L by omega) (by omega)) (by rw [nI_clamp (show ((6 * n) + 2) < 2 ^ 31 by omega)]) ?_
        refine w_aload_n s195_933 rfl ?_
        refine w_iload_n s195_934 rfl ?_
        refine w_iconst (v := 3) s195_935 rfl ?_
        refine w_iaddN (x := (6 * n)) (y := 3) s195_936 ?_
        refine w_iald0 (v := xs ((6 * n) + 3)) s195_937 hsc (am_inb (show ((6 * n) + 3) < L by omega) (by omega)) (by rw [nI_clamp (show ((6 * n) + 3) < 2 ^ 31 by omega)]) ?_
        refine w_aload_n s195_938 rfl ?_
        refine w_iload_n s195_939 rfl ?_
        refine w_iconst (v := 4) s195_940 rfl ?_
        refine w_iaddN (x := (6 * n)) (y := 4) s195_941 ?_
        refine w_iald0 (v := xs ((6 * n) + 4)) s195_942 hsc (am_inb (show ((6 * n) + 4) < L by omega) (by omega)) (by rw [nI_clamp (show ((6 * n) + 4) < 2 ^ 31 by omega)]) ?_
        refine w_callV4 s195_943 hx.o ow62 mc195_62 rfl rfl (c62 hx iv _ _ _ _) ?_
        rintro v h1 ⟨rfl, P1, D1, hx1⟩
        replace hw := hw.xf hx1.1
        replace hsc := (hx1.1.2.2.2.2.1 0 (Or.inl (by decide))).trans hsc
        show am_wp _ (_, _, Value.int _ :: _) _ _
        refine w_aload_n s195_946 rfl ?_
        refine w_aload_n s195_947 rfl ?_
        refine w_iload_n s195_948 rfl ?_
        refine w_iconst (v := 1) s195_949 rfl ?_
        refine w_iaddN (x := (6 * n)) (y := 1) s195_950 ?_
        refine w_iald0 (v := xs ((6 * n) + 1)) s195_951 hsc (am_inb (show ((6 * n) + 1) < L by omega) (by omega)) (by rw [nI_clamp (show ((6 * n) + 1) < 2 ^ 31 by omega)]) ?_
        refine w_aload_n s195_952 rfl ?_
        refine w_iload_n s195_953 rfl ?_
        refine w_iconst (v := 2) s195_954 rfl ?_
        refine w_iaddN (x := (6 * n)) (y := 2) s195_955 ?_
        refine w_iald0 (v := xs ((6 * n) + 2)) s195_956 hsc (am_inb (show ((6 * n) + 2) < L by omega) (by omega)) (by rw [nI_clamp (show ((6 * n) + 2) < 2 ^ 31 by omega)]) ?_
        refine w_aload_n s195_957 rfl ?_
        refine w_iload_n s195_958 rfl ?_
        refine w_iconst (v := 3) s195_959 rfl ?_
        refine w_iaddN (x := (6 * n)) (y := 3) s195_960 ?_
        refine w_iald0 (v := xs ((6 * n) + 3)) s195_961 hsc (am_inb (show ((6 * n) + 3) < L by omega) (by omega)) (by rw [nI_clamp (show ((6 * n) + 3) < 2 ^ 31 by omega)]) ?_
        refine w_aload_n s195_962 rfl ?_
        refine w_iload_n s195_963 rfl ?_
        refine w_iconst (v := 4) s195_964 rfl ?_
        refine w_iaddN (x := (6 * n)) (y := 4) s195_965 ?_
        refine w_iald0 (v := xs ((6 * n) + 4)) s195_966 hsc (am_inb (show ((6 * n) + 4) < L by omega) (by omega)) (by rw [nI_clamp (show ((6 * n) + 4) < 2 ^ 31 by omega)]) ?_
        refine w_callV4 s195_967 (hw 0 _ rfl) ow154 mc195_154 rfl rfl (c154 hw iv _ _ _ _) ?_
        rintro v h2 ⟨rfl, hw2, fr2⟩
        show am_wp _ (_, _, Value.int _ :: _) _ _
        refine w_icmpeq s195_970 rfl  (fun c970 => ?_) (fun c => False.elim (c rfl))
        refine w_iinc s195_1388 rfl (show nI (6 * n) + Int32.ofInt 6 = nI (6 * (n + 1)) from nI_add _ 6) rfl ?_
        show am_wp _ (_, [_, _, _, _], _) _ _
        refine w_goto s195_1391 rfl ?_
        exact ihn (by omega) _ _ _ (x_G_m hg hx1 hw2 fr2 (iv_S_cry iv _ _ _ _))
      · skip
        have hj4 : op = 23 := hj3
        clear hj3
        subst hj4
        refine w_tswI (n := 23) s195_33 (by decide) rfl rfl rfl ?_
        refine w_aload_n s195_975 rfl ?_
        refine w_aload_n s195_976 rfl ?_
        refine w_iload_n s195_977 rfl ?_
        refine w_iconst (v := 1) s195_978 rfl ?_
        refine w_iaddN (x := (6 * n)) (y := 1) s195_979 ?_
        refine w_iald0 (v := xs ((6 * n) + 1)) s195_980 hsc (am_inb (show ((6 * n) + 1) < L by omega) (by omega)) (by rw [nI_clamp (show ((6 * n) + 1) < 2 ^ 31 by omega)]) ?_
        refine w_aload_n s195_981 rfl ?_
        refine w_iload_n s195_982 rfl ?_
        refine w_iconst (v := 2) s195_983 rfl ?_
        refine w_iaddN (x := (6 * n)) (y := 2) s195_984 ?_
        refine w_iald0 (v := xs ((6 * n) + 2)) s195_985 hsc (am_inb (show ((6 * n) + 2) < L by omega) (by omega)) (by rw [nI_clamp (show ((6 * n) + 2) < 2 ^ 31 by omega)]) ?_
        refine w_callV2r s195_986 hx.o ow63 mc195_63 rfl rfl (c63 hx iv _ _) ?_
        refine w_aload_n s195_989 rfl ?_
        refine w_aload_n s195_990 rfl ?_
        refine w_iload_n s195_991 rfl ?_
        refine w_iconst (v := 1) s195_992 rfl ?_
        refine w_iaddN (x := (6 * n)) (y := 1) s195_993 ?_
        refine w_iald0 (v := xs ((6 * n) + 1)) s195_994 hsc (am_inb (show ((6 * n) + 1) < L by omega) (by omega)) (by rw [nI_clamp (show ((6 * n) + 1) < 2 ^ 31 by omega)]) ?_
        refine w_aload_n s195_995 rfl ?_
        refine w_iload_n s195_996 rfl ?_
        refine w_iconst (v := 2) s195_997 rfl ?_
        refine w_iaddN (x := (6 * n)) (y := 2) s195_998 ?_
        refine w_iald0 (v := xs ((6 * n) + 2)) s195_999 hsc (am_inb (show ((6 * n) + 2) < L by omega) (by omega)) (by rw [nI_clamp (show ((6 * n) + 2) < 2 ^ 31 by omega)]) ?_
        refine w_callV2r s195_1000 (hw 0 _ rfl) ow155 mc195_155 rfl rfl (c155 hw iv _ _) ?_
        refine w_icmpeq s195_1003 rfl  (fun c1003 => ?_) (fun c => False.elim (c rfl))
        refine w_iinc s195_1388 rfl (show nI (6 * n) + Int32.ofInt 6 = nI (6 * (n + 1)) from nI_add _ 6) rfl ?_
        show am_wp _ (_, [_, _, _, _], _) _ _
        refine w_goto s195_1391 rfl ?_
        exact ihn (by omega) _ _ _ (x_G_r hg)
      · skip
        have hj4 : op = 24 := hj3
        clear hj3
        subst hj4
        refine w_tswI (n := 24) s195_33 (by decide) rfl rfl rfl ?_
        refine w_aload_n s195_1008 rfl ?_
        refine w_aload_n s195_1009 rfl ?_
        refine w_iload_n s195_1010 rfl ?_
        refine w_iconst (v := 1) s195_1011 rfl ?_
        refine w_iaddN (x := (6 * n)) (y := 1) s195_1012 ?_
        refine w_iald0 (v := xs ((6 * n) + 1)) s195_1013 hsc (am_inb (show ((6 * n) + 1) < L by omega) (by omega)) (by rw [nI_clamp (show ((6 * n) + 1) < 2 ^ 31 by omega)]) ?_
        refine w_aload_n s195_1014 rfl ?_
        refine w_iload_n s195_1015 rfl ?_
        refine w_iconst (v := 2) s195_1016 rfl ?_
        refine w_iaddN (x := (6 * n)) (y := 2) s195_1017 ?_
        refine w_iald0 (v := xs ((6 * n) + 2)) s195_1018 hsc (am_inb (show ((6 * n) + 2) < L by omega) (by omega)) (by rw [nI_clamp (show ((6 * n) + 2) < 2 ^ 31 by omega)]) ?_
        refine w_callV2r s195_1019 hx.o ow64 mc195_64 rfl rfl (c64 hx iv _ _) ?_
        refine w_aload_n s195_1022 rfl ?_
        refine w_aload_n s195_1023 rfl ?_
        refine w_iload_n s195_1024 rfl ?_
        refine w_iconst (v := 1) s195_1025 rfl ?_
        refine w_iaddN (x := (6 * n)) (y := 1) s195_1026 ?_
        refine w_iald0 (v := xs ((6 * n) + 1)) s195_1027 hsc (am_inb (show ((6 * n) + 1) < L by omega) (by omega)) (by rw [nI_clamp (show ((6 * n) + 1) < 2 ^ 31 by omega)]) ?_
        refine w_aload_n s195_1028 rfl ?_
        refine w_iload_n s195_1029 rfl ?_
        refine w_iconst (v := 2) s195_1030 rfl ?_
        refine w_iaddN (x := (6 * n)) (y := 2) s195_1031 ?_
        refine w_iald0 (v := xs ((6 * n) + 2)) s195_1032 hsc (am_inb (show ((6 * n) + 2) < L by omega) (by omega)) (by rw [nI_clamp (show ((6 * n) + 2) < 2 ^ 31 by omega)]) ?_
        refine w_callV2r s195_1033 (hw 0 _ rfl) ow157 mc195_157 rfl rfl (c157 hw iv _ _) ?_
        refine w_icmpeq s195_1036 rfl  (fun c1036 => ?_) (fun c => False.elim (c rfl))
        refine w_iinc s195_1388 rfl (show nI (6 * n) + Int32.ofInt 6 = nI (6 * (n + 1)) from nI_add _ 6) rfl ?_
        show am_wp _ (_, [_, _, _, _], _) _ _
        refine w_goto s195_1391 rfl ?_
        exact ihn (by omega) _ _ _ (x_G_r hg)
      · skip
        have hj4 : op = 25 := hj3
        clear hj3
        subst hj4
        refine w_tswI (n := 25) s195_33 (by decide) rfl rfl rfl ?_
        refine w_aload_n s195_1041 rfl ?_
        refine w_aload_n s195_1042 rfl ?_
        refine w_iload_n s195_1043 rfl ?_
        refine w_iconst (v := 1) s195_1044 rfl ?_
        refine w_iaddN (x := (6 * n)) (y := 1) s195_1045 ?_
        refine w_iald0 (v := xs ((6 * n) + 1)) s195_1046 hsc (am_inb (show ((6 * n) + 1) < L by omega) (by omega)) (by rw [nI_clamp (show ((6 * n) + 1) < 2 ^ 31 by omega)]) ?_
        refine w_callV1r s195_1047 hx.o ow65 mc195_65 rfl rfl (c65 hx iv _) ?_
        refine w_aload_n s195_1050 rfl ?_
        refine w_aload_n s195_1051 rfl ?_
        refine w_iload_n s195_1052 rfl ?_
        refine w_iconst (v := 1) s195_1053 rfl ?_
        refine w_iaddN (x := (6 * n)) (y := 1) s195_1054 ?_
        refine w_iald0 (v := xs ((6 * n) + 1)) s195_1055 hsc (am_inb (show ((6 * n) + 1) < L by omega) (by omega)) (by rw [nI_clamp (show ((6 * n) + 1) < 2 ^ 31 by omega)]) ?_
        refine w_callV1r s195_1056 (hw 0 _ rfl) ow158 mc195_158 rfl rfl (c158 hw iv _) ?_
        refine w_icmpeq s195_1059 rfl  (fun c1059 => ?_) (fun c => False.elim (c rfl))
        refine w_iinc s195_1388 rfl (show nI (6 * n) + Int32.ofInt 6 = nI (6 * (n + 1)) from nI_add _ 6) rfl ?_
        show am_wp _ (_, [_, _, _, _], _) _ _
        refine w_goto s195_1391 rfl ?_
        exact ihn (by omega) _ _ _ (x_G_r hg)
      · skip
        have hj4 : op = 26 := hj3
        clear hj3
        subst hj4
        refine w_tswI (n := 26) s195_33 (by decide) rfl rfl rfl ?_
        refine w_aload_n s195_1064 rfl ?_
        refine w_aload_n s195_1065 rfl ?_
        refine w_iload_n s195_1066 rfl ?_
        refine w_iconst (v := 1) s195_1067 rfl ?_
        refine w_iaddN (x := (6 * n)) (y := 1) s195_1068 ?_
        refine w_iald0 (v := xs ((6 * n) + 1)) s195_1069 hsc (am_inb (show ((6 * n) + 1) < L by omega) (by omega)) (by rw [nI_clamp (show ((6 * n) + 1) < 2 ^ 31 by omega)]) ?_
        refine w_aload_n s195_1070 rfl ?_
        refine w_iload_n s195_1071 rfl ?_
        refine w_iconst (v := 2) s195_1072 rfl ?_
        refine w_iaddN (x := (6 * n)) (y := 2) s195_1073 ?_
        refine w_iald0 (v := xs ((6 * n) + 2)) s195_1074 hsc (am_inb (show ((6 * n) + 2) < L by omega) (by omega)) (by rw [nI_clamp (show ((6 * n) + 2) < 2 ^ 31 by omega)]) ?_
        refine w_callV2r s195_1075 hx.o ow66 mc195_66 rfl rfl (c66 hx iv _ _) ?_
        refine w_aload_n s195_1078 rfl ?_
        refine w_aload_n s195_1079 rfl ?_
        refine w_iload_n s195_1080 rfl ?_
        refine w_iconst (v := 1) s195_1081 rfl ?_
        refine w_iaddN (x := (6 * n)) (y := 1) s195_1082 ?_
        refine w_iald0 (v := xs ((6 * n) + 1)) s195_1083 hsc (am_inb (show ((6 * n) + 1) < L by omega) (by omega)) (by rw [nI_clamp (show ((6 * n) + 1) < 2 ^ 31 by omega)]) ?_
        refine w_aload_n s195_1084 rfl ?_
        refine w_iload_n s195_1085 rfl ?_
        refine w_iconst (v := 2) s195_1086 rfl ?_
        refine w_iaddN (x := (6 * n)) (y := 2) s195_1087 ?_
        refine w_iald0 (v := xs ((6 * n) + 2)) s195_1088 hsc (am_inb (show ((6 * n) + 2) < L by omega) (by omega)) (by rw [nI_clamp (show ((6 * n) + 2) < 2 ^ 31 by omega)]) ?_
        refine w_callV2r s195_1089 (hw 0 _ rfl) ow159 mc195_159 rfl rfl (c159 hw iv _ _) ?_
        refine w_icmpeq s195_1092 rfl  (fun c1092 => ?_) (fun c => False.elim (c rfl))
        refine w_iinc s195_1388 rfl (show nI (6 * n) + Int32.ofInt 6 = nI (6 * (n + 1)) from nI_add _ 6) rfl ?_
        show am_wp _ (_, [_, _, _, _], _) _ _
        refine w_goto s195_1391 rfl ?_
        exact ihn (by omega) _ _ _ (x_G_r hg)
      · skip
        have hj4 : op = 27 := hj3
        clear hj3
        subst hj4
        refine w_tswI (n := 27) s195_33 (by decide) rfl rfl rfl ?_
        refine w_aload_n s195_1097 rfl ?_
        refine w_aload_n s195_1098 rfl ?_
        refine w_iload_n s195_1099 rfl ?_
        refine w_iconst (v := 1) s195_1100 rfl ?_
        refine w_iaddN (x := (6 * n)) (y := 1) s195_1101 ?_
        refine w_iald0 (v := xs ((6 * n) + 1)) s195_1102 hsc (am_inb (show ((6 * n) + 1) < L by omega) (by omega)) (by rw [nI_clamp (show ((6 * n) + 1) < 2 ^ 31 by omega)]) ?_
        refine w_aload_n s195_1103 rfl ?_
        refine w_iload_n s195_1104 rfl ?_
        refine w_iconst (v := 2) s195_1105 rfl ?_
        refine w_iaddN (x := (6 * n)) (y := 2) s195_1106 ?_
        refine w_iald0 (v := xs ((6 * n) + 2)) s195_1107 hsc (am_inb (show ((6 * n) + 2) < L by omega) (by omega)) (by rw [nI_clamp (show ((6 * n) + 2) < 2 ^ 31 by omega)]) ?_
        refine w_aload_n s195_1108 rfl ?_
        refine w_iload_n s195_1109 rfl ?_
        refine w_iconst (v := 3) s195_1110 rfl ?_
        refine w_iaddN (x := (6 * n)) (y := 3) s195_1111 ?_
        refine w_iald0 (v := xs ((6 * n) + 3)) s195_1112 hsc (am_inb (show ((6 * n) + 3) < L by omega) (by omega)) (by rw [nI_clamp (show ((6 * n) + 3) < 2 ^ 31 by omega)]) ?_
        refine w_aload_n s195_1113 rfl ?_
        refine w_iload_n s195_1114 rfl ?_
        refine w_iconst (v := 4) s195_1115 rfl ?_
        refine w_iaddN (x := (6 * n)) (y := 4) s195_1116 ?_
        refine w_iald0 (v := xs ((6 * n) + 4)) s195_1117 hsc (am_inb (show ((6 * n) + 4) < L by omega) (by omega)) (by rw [nI_clamp (show ((6 * n) + 4) < 2 ^ 31 by omega)]) ?_
        refine w_callV4 s195_1118 hx.o ow67 mc195_67 rfl rfl (c67 hx iv _ _ _ _) ?_
        rintro v h1 ⟨rfl, P1, D1, hx1⟩
        replace hw := hw.xf hx1.1
        replace hsc := (hx1.1.2.2.2.2.1 0 (Or.inl (by decide))).trans hsc
        show am_wp _ (_, _, Value.int _ :: _) _ _
        refine w_aload_n s195_1121 rfl ?_
        refine w_aload_n s195_1122 rfl ?_
        refine w_iload_n s195_1123 rfl ?_
        refine w_iconst (v := 1) s195_1124 rfl ?_
        refine w_iaddN (x := (6 * n)) (y := 1) s195_1125 ?_
        refine w_iald0 (v := xs ((6 * n) + 1)) s195_1126 hsc (am_inb (show ((6 * n) + 1) < L by omega) (by omega)) (by rw [nI_clamp (show ((6 * n) + 1) < 2 ^ 31 by omega)]) ?_
        refine w_aload_n s195_1127 rfl ?_
        refine w_iload_n s195_1128 rfl ?_
        refine w_iconst (v := 2) s195_1129 rfl ?_
        refine w_iaddN (x := (6 * n)) (y := 2) s195_1130 ?_
        refine w_iald0 (v := xs ((6 * n) + 2)) s195_1131 hsc (am_inb (show ((6 * n) + 2) < L by omega) (by omega)) (by rw [nI_clamp (show ((6 * n) + 2) < 2 ^ 31 by omega)]) ?_
        refine w_aload_n s195_1132 rfl ?_
        refine w_iload_n s195_1133 rfl ?_
        refine w_iconst (v := 3) s195_1134 rfl ?_
        refine w_iaddN (x := (6 * n)) (y := 3) s195_1135 ?_
        refine w_iald0 (v := xs ((6 * n) + 3)) s195_1136 hsc (am_inb (show ((6 * n) + 3) < L by omega) (by omega)) (by rw [nI_clamp (show ((6 * n) + 3) < 2 ^ 31 by omega)]) ?_
        refine w_aload_n s195_1137 rfl ?_
        refine w_iload_n s195_1138 rfl ?_
        refine w_iconst (v := 4) s195_1139 rfl ?_
        refine w_iaddN (x := (6 * n)) (y := 4) s195_1140 ?_
        refine w_iald0 (v := xs ((6 * n) + 4)) s195_1141 hsc (am_inb (show ((6 * n) + 4) < L by omega) (by omega)) (by rw [nI_clamp (show ((6 * n) + 4) < 2 ^ 31 by omega)]) ?_
        refine w_callV4 s195_1142 (hw 0 _ rfl) ow161 mc195_161 rfl rfl (c161 hw iv _ _ _ _) ?_
        rintro v h2 ⟨rfl, hw2, fr2⟩
        show am_wp _ (_, _, Value.int _ :: _) _ _
        refine w_icmpeq s195_1145 rfl  (fun c1145 => ?_) (fun c => False.elim (c rfl))
        refine w_iinc s195_1388 rfl (show nI (6 * n) + Int32.ofInt 6 = nI (6 * (n + 1)) from nI_add _ 6) rfl ?_
        show am_wp _ (_, [_, _, _, _], _) _ _
        refine w_goto s195_1391 rfl ?_
        exact ihn (by omega) _ _ _ (x_G_m hg hx1 hw2 fr2 (iv_S_present iv _ _ _ _))
      · skip
        have hj4 : op = 28 := hj3
        clear hj3
        subst hj4
        refine w_tswI (n := 28) s195_33 (by decide) rfl rfl rfl ?_
        refine w_aload_n s195_1150 rfl ?_
        refine w_aload_n s195_1151 rfl ?_
        refine w_iload_n s195_1152 rfl ?_
        refine w_iconst (v := 1) s195_1153 rfl ?_
        refine w_iaddN (x := (6 * n)) (y := 1) s195_1154 ?_
        refine w_iald0 (v := xs ((6 * n) + 1)) s195_1155 hsc (am_inb (show ((6 * n) + 1) < L by omega) (by omega)) (by rw [nI_clamp (show ((6 * n) + 1) < 2 ^ 31 by omega)]) ?_
        refine w_aload_n s195_1156 rfl ?_
        refine w_iload_n s195_1157 rfl ?_
        refine w_iconst (v := 2) s195_1158 rfl ?_
        refine w_iaddN (x := (6 * n)) (y := 2) s195_1159 ?_
        refine w_iald0 (v := xs ((6 * n) + 2)) s195_1160 hsc (am_inb (show ((6 * n) + 2) < L by omega) (by omega)) (by rw [nI_clamp (show ((6 * n) + 2) < 2 ^ 31 by omega)]) ?_
        refine w_callV2r s195_1161 hx.o ow68 mc195_68 rfl rfl (c68 hx iv _ _) ?_
        refine w_aload_n s195_1164 rfl ?_
        refine w_aload_n s195_1165 rfl ?_
        refine w_iload_n s195_1166 rfl ?_
        refine w_iconst (v := 1) s195_1167 rfl ?_
        refine w_iaddN (x := (6 * n)) (y := 1) s195_1168 ?_
        refine w_iald0 (v := xs ((6 * n) + 1)) s195_1169 hsc (am_inb (show ((6 * n) + 1) < L by omega) (by omega)) (by rw [nI_clamp (show ((6 * n) + 1) < 2 ^ 31 by omega)]) ?_
        refine w_aload_n s195_1170 rfl ?_
        refine w_iload_n s195_1171 rfl ?_
        refine w_iconst (v := 2) s195_1172 rfl ?_
        refine w_iaddN (x := (6 * n)) (y := 2) s195_1173 ?_
        refine w_iald0 (v := xs ((6 * n) + 2)) s195_1174 hsc (am_inb (show ((6 * n) + 2) < L by omega) (by omega)) (by rw [nI_clamp (show ((6 * n) + 2) < 2 ^ 31 by omega)]) ?_
        refine w_callV2r s195_1175 (hw 0 _ rfl) ow164 mc195_164 rfl rfl (c164 hw iv _ _) ?_
        refine w_icmpeq s195_1178 rfl  (fun c1178 => ?_) (fun c => False.elim (c rfl))
        refine w_iinc s195_1388 rfl (show nI (6 * n) + Int32.ofInt 6 = nI (6 * (n + 1)) from nI_add _ 6) rfl ?_
        show am_wp _ (_, [_, _, _, _], _) _ _
        refine w_goto s195_1391 rfl ?_
        exact ihn (by omega) _ _ _ (x_G_r hg)
      · skip
        have hj4 : op = 29 := hj3
        clear hj3
        subst hj4
        refine w_tswI (n := 29) s195_33 (by decide) rfl rfl rfl ?_
        refine w_aload_n s195_1183 rfl ?_
        refine w_aload_n s195_1184 rfl ?_
        refine w_iload_n s195_1185 rfl ?_
        refine w_iconst (v := 1) s195_1186 rfl ?_
        refine w_iaddN (x := (6 * n)) (y := 1) s195_1187 ?_
        refine w_iald0 (v := xs ((6 * n) + 1)) s195_1188 hsc (am_inb (show ((6 * n) + 1) < L by omega) (by omega)) (by rw [nI_clamp (show ((6 * n) + 1) < 2 ^ 31 by omega)]) ?_
        refine w_aload_n s195_1189 rfl ?_
        refine w_iload_n s195_1190 rfl ?_
        refine w_iconst (v := 2) s195_1191 rfl ?_
        refine w_iaddN (x := (6 * n)) (y := 2) s195_1192 ?_
        refine w_iald0 (v := xs ((6 * n) + 2)) s195_1193 hsc (am_inb (show ((6 * n) + 2) < L by omega) (by omega)) (by rw [nI_clamp (show ((6 * n) + 2) < 2 ^ 31 by omega)]) ?_
        refine w_callV2r s195_1194 hx.o ow69 mc195_69 rfl rfl (c69 hx iv _ _) ?_
        refine w_aload_n s195_1197 rfl ?_
        refine w_aload_n s195_1198 rfl ?_
        refine w_iload_n s195_1199 rfl ?_
        refine w_iconst (v := 1) s195_1200 rfl ?_
        refine w_iaddN (x := (6 * n)) (y := 1) s195_1201 ?_
        refine w_iald0 (v := xs ((6 * n) + 1)) s195_1202 hsc (am_inb (show ((6 * n) + 1) < L by omega) (by omega)) (by rw [nI_clamp (show ((6 * n) + 1) < 2 ^ 31 by omega)]) ?_
        refine w_aload_n s195_1203 rfl ?_
        refine w_iload_n s195_1204 rfl ?_
        refine w_iconst (v := 2) s195_1205 rfl ?_
        refine w_iaddN (x := (6 * n)) (y := 2) s195_1206 ?_
        refine w_iald0 (v := xs ((6 * n) + 2)) s195_1207 hsc (am_inb (show ((6 * n) + 2) < L by omega) (by omega)) (by rw [nI_clamp (show ((6 * n) + 2) < 2 ^ 31 by omega)]) ?_
        refine w_callV2r s195_1208 (hw 0 _ rfl) ow165 mc195_165 rfl rfl (c165 hw iv _ _) ?_
        refine w_icmpeq s195_1211 rfl  (fun c1211 => ?_) (fun c => False.elim (c rfl))
        refine w_iinc s195_1388 rfl (show nI (6 * n) + Int32.ofInt 6 = nI (6 * (n + 1)) from nI_add _ 6) rfl ?_
        show am_wp _ (_, [_, _, _, _], _) _ _
        refine w_goto s195_1391 rfl ?_
        exact ihn (by omega) _ _ _ (x_G_r hg)
      · skip
        have hj4 : op = 30 := hj3
        clear hj3
        subst hj4
        refine w_tswI (n := 30) s195_33 (by decide) rfl rfl rfl ?_
        refine w_aload_n s195_1216 rfl ?_
        refine w_aload_n s195_1217 rfl ?_
        refine w_iload_n s195_1218 rfl ?_
        refine w_iconst (v := 1) s195_1219 rfl ?_
        refine w_iaddN (x := (6 * n)) (y := 1) s195_1220 ?_
        refine w_iald0 (v := xs ((6 * n) + 1)) s195_1221 hsc (am_inb (show ((6 * n) + 1) < L by omega) (by omega)) (by rw [nI_clamp (show ((6 * n) + 1) < 2 ^ 31 by omega)]) ?_
        refine w_aload_n s195_1222 rfl ?_
        refine w_iload_n s195_1223 rfl ?_
        refine w_iconst (v := 2) s195_1224 rfl ?_
        refine w_iaddN (x := (6 * n)) (y := 2) s195_1225 ?_
        refine w_iald0 (v := xs ((6 * n) + 2)) s195_1226 hsc (am_inb (show ((6 * n) + 2) < L by omega) (by omega)) (by rw [nI_clamp (show ((6 * n) + 2) < 2 ^ 31 by omega)]) ?_
        refine w_callV2 s195_1227 hx.o ow70 mc195_70 rfl rfl (c70 hx iv _ _) ?_
        rintro v h1 ⟨rfl, P1, D1, hx1⟩
        replace hw := hw.xf hx1.1
        replace hsc := (hx1.1.2.2.2.2.1 0 (Or.inl (by decide))).trans hsc
        show am_wp _ (_, _, Value.int _ :: _) _ _
        refine w_aload_n s195_1230 rfl ?_
        refine w_aload_n s195_1231 rfl ?_
        refine w_iload_n s195_1232 rfl ?_
        refine w_iconst (v := 1) s195_1233 rfl ?_
        refine w_iaddN (x := (6 * n)) (y := 1) s195_1234 ?_
        refine w_iald0 (v := xs ((6 * n) + 1)) s195_1235 hsc (am_inb (show ((6 * n) + 1) < L by omega) (by omega)) (by rw [nI_clamp (show ((6 * n) + 1) < 2 ^ 31 by omega)]) ?_
        refine w_aload_n s195_1236 rfl ?_
        refine w_iload_n s195_1237 rfl ?_
        refine w_iconst (v := 2) s195_1238 rfl ?_
        refine w_iaddN (x := (6 * n)) (y := 2) s195_1239 ?_
        refine w_iald0 (v := xs ((6 * n) + 2)) s195_1240 hsc (am_inb (show ((6 * n) + 2) < L by omega) (by omega)) (by rw [nI_clamp (show ((6 * n) + 2) < 2 ^ 31 by omega)]) ?_
        refine w_callV2 s195_1241 (hw 0 _ rfl) ow167 mc195_167 rfl rfl (c167 hw iv _ _) ?_
        rintro v h2 ⟨rfl, t2, hw2, fr2⟩
        show am_wp _ (_, _, Value.int _ :: _) _ _
        refine w_icmpeq s195_1244 rfl  (fun c1244 => ?_) (fun c => False.elim (c rfl))
        refine w_iinc s195_1388 rfl (show nI (6 * n) + Int32.ofInt 6 = nI (6 * (n + 1)) from nI_add _ 6) rfl ?_
        show am_wp _ (_, [_, _, _, _], _) _ _
        refine w_goto s195_1391 rfl ?_
        exact ihn (by omega) _ _ _ (x_G_t hg hx1 hw2 fr2 (iv_S_round iv _ _))
      · skip
        have hj4 : op = 31 := hj3
        clear hj3
        subst hj4
        refine w_tswI (n := 31) s195_33 (by decide) rfl rfl rfl ?_
        refine w_aload_n s195_1249 rfl ?_
        refine w_aload_n s195_1250 rfl ?_
        refine w_iload_n s195_1251 rfl ?_
        refine w_iconst (v := 1) s195_1252 rfl ?_
        refine w_iaddN (x := (6 * n)) (y := 1) s195_1253 ?_
        refine w_iald0 (v := xs ((6 * n) + 1)) s195_1254 hsc (am_inb (show ((6 * n) + 1) < L by omega) (by omega)) (by rw [nI_clamp (show ((6 * n) + 1) < 2 ^ 31 by omega)]) ?_
        refine w_callV1r s195_1255 hx.o ow71 mc195_71 rfl rfl (c71 hx iv _) ?_
        refine w_aload_n s195_1258 rfl ?_
        refine w_aload_n s195_1259 rfl ?_
        refine w_iload_n s195_1260 rfl ?_
        refine w_iconst (v := 1) s195_1261 rfl ?_
        refine w_iaddN (x := (6 * n)) (y := 1) s195_1262 ?_
        refine w_iald0 (v := xs ((6 * n) + 1)) s195_1263 hsc (am_inb (show ((6 * n) + 1) < L by omega) (by omega)) (by rw [nI_clamp (show ((6 * n) + 1) < 2 ^ 31 by omega)]) ?_
        refine w_callV1r s195_1264 (hw 0 _ rfl) ow168 mc195_168 rfl rfl (c168 hw iv _) ?_
        refine w_icmpeq s195_1267 rfl  (fun c1267 => ?_) (fun c => False.elim (c rfl))
        refine w_iinc s195_1388 rfl (show nI (6 * n) + Int32.ofInt 6 = nI (6 * (n + 1)) from nI_add _ 6) rfl ?_
        show am_wp _ (_, [_, _, _, _], _) _ _
        refine w_goto s195_1391 rfl ?_
        exact ihn (by omega) _ _ _ (x_G_r hg)
      · skip
        have hj4 : op = 32 := hj3
        clear hj3
        subst hj4
        refine w_tswI (n := 32) s195_33 (by decide) rfl rfl rfl ?_
        refine w_aload_n s195_1272 rfl ?_
        refine w_aload_n s195_1273 rfl ?_
        refine w_iload_n s195_1274 rfl ?_
        refine w_iconst (v := 1) s195_1275 rfl ?_
        refine w_iaddN (x := (6 * n)) (y := 1) s195_1276 ?_
        refine w_iald0 (v := xs ((6 * n) + 1)) s195_1277 hsc (am_inb (show ((6 * n) + 1) < L by omega) (by omega)) (by rw [nI_clamp (show ((6 * n) + 1) < 2 ^ 31 by omega)]) ?_
        refine w_aload_n s195_1278 rfl ?_
        refine w_iload_n s195_1279 rfl ?_
        refine w_iconst (v := 2) s195_1280 rfl ?_
        refine w_iaddN (x := (6 * n)) (y := 2) s195_1281 ?_
        refine w_iald0 (v := xs ((6 * n) + 2)) s195_1282 hsc (am_inb (show ((6 * n) + 2) < L by omega) (by omega)) (by rw [nI_clamp (show ((6 * n) + 2) < 2 ^ 31 by omega)]) ?_
        refine w_aload_n s195_1283 rfl ?_
        refine w_iload_n s195_1284 rfl ?_
        refine w_iconst (v := 3) s195_1285 rfl ?_
        refine w_iaddN (x := (6 * n)) (y := 3) s195_1286 ?_
        refine w_iald0 (v := xs ((6 * n) + 3)) s195_1287 hsc (am_inb (show ((6 * n) + 3) < L by omega) (by omega)) (by rw [nI_clamp (show ((6 * n) + 3) < 2 ^ 31 by omega)]) ?_
        refine w_callV3 s195_1288 hx.o ow72 mc195_72 rfl rfl (c72 hx iv _ _ _) ?_
        rintro v h1 ⟨rfl, P1, D1, hx1⟩
        replace hw := hw.xf hx1.1
        replace hsc := (hx1.1.2.2.2.2.1 0 (Or.inl (by decide))).trans hsc
        show am_wp _ (_, _, Value.int _ :: _) _ _
        refine w_aload_n s195_1291 rfl ?_
        refine w_aload_n s195_1292 rfl ?_
        refine w_iload_n s195_1293 rfl ?_
        refine w_iconst (v := 1) s195_1294 rfl ?_
        refine w_iaddN (x := (6 * n)) (y := 1) s195_1295 ?_
        refine w_iald0 (v := xs ((6 * n) + 1)) s195_1296 hsc (am_inb (show ((6 * n) + 1) < L by omega) (by omega)) (by rw [nI_clamp (show ((6 * n) + 1) < 2 ^ 31 by omega)]) ?_
        refine w_aload_n s195_1297 rfl ?_
        refine w_iload_n s195_1298 rfl ?_
        refine w_iconst (v := 2) s195_1299 rfl ?_
        refine w_iaddN (x := (6 * n)) (y := 2) s195_1300 ?_
        refine w_iald0 (v := xs ((6 * n) + 2)) s195_1301 hsc (am_inb (show ((6 * n) + 2) < L by omega) (by omega)) (by rw [nI_clamp (show ((6 * n) + 2) < 2 ^ 31 by omega)]) ?_
        refine w_aload_n s195_1302 rfl ?_
        refine w_iload_n s195_1303 rfl ?_
        refine w_iconst (v := 3) s195_1304 rfl ?_
        refine w_iaddN (x := (6 * n)) (y := 3) s195_1305 ?_
        refine w_iald0 (v := xs ((6 * n) + 3)) s195_1306 hsc (am_inb (show ((6 * n) + 3) < L by omega) (by omega)) (by rw [nI_clamp (show ((6 * n) + 3) < 2 ^ 31 by omega)]) ?_
        refine w_callV3 s195_1307 (hw 0 _ rfl) ow169 mc195_169 rfl rfl (c169 hw iv _ _ _) ?_
        rintro v h2 ⟨rfl, hw2, fr2⟩
        show am_wp _ (_, _, Value.int _ :: _) _ _
        refine w_icmpeq s195_1310 rfl  (fun c1310 => ?_) (fun c => False.elim (c rfl))
        refine w_iinc s195_1388 rfl (show nI (6 * n) + Int32.ofInt 6 = nI (6 * (n + 1)) from nI_add _ 6) rfl ?_
        show am_wp _ (_, [_, _, _, _], _) _ _
        refine w_goto s195_1391 rfl ?_
        exact ihn (by omega) _ _ _ (x_G_m hg hx1 hw2 fr2 (iv_S_joined iv _ _ _))
      · skip
        have hj4 : op = 33 := hj3
        clear hj3
        subst hj4
        refine w_tswI (n := 33) s195_33 (by decide) rfl rfl rfl ?_
        refine w_aload_n s195_1315 rfl ?_
        refine w_aload_n s195_1316 rfl ?_
        refine w_iload_n s195_1317 rfl ?_
        refine w_iconst (v := 1) s195_1318 rfl ?_
        refine w_iaddN (x := (6 * n)) (y := 1) s195_1319 ?_
        refine w_iald0 (v := xs ((6 * n) + 1)) s195_1320 hsc (am_inb (show ((6 * n) + 1) < L by omega) (by omega)) (by rw [nI_clamp (show ((6 * n) + 1) < 2 ^ 31 by omega)]) ?_
        refine w_callV1r s195_1321 hx.o ow73 mc195_73 rfl rfl (c73 hx iv _) ?_
        refine w_aload_n s195_1324 rfl ?_
        refine w_aload_n s195_1325 rfl ?_
        refine w_iload_n s195_1326 rfl ?_
        refine w_iconst (v := 1) s195_1327 rfl ?_
        refine w_iaddN (x := (6 * n)) (y := 1) s195_1328 ?_
        refine w_iald0 (v := xs ((6 * n) + 1)) s195_1329 hsc (am_inb (show ((6 * n) + 1) < L by omega) (by omega)) (by rw [nI_clamp (show ((6 * n) + 1) < 2 ^ 31 by omega)]) ?_
        refine w_callV1r s195_1330 (hw 0 _ rfl) ow171 mc195_171 rfl rfl (c171 hw _) ?_
        refine w_icmpeq s195_1333 rfl  (fun c1333 => ?_) (fun c => False.elim (c rfl))
        refine w_iinc s195_1388 rfl (show nI (6 * n) + Int32.ofInt 6 = nI (6 * (n + 1)) from nI_add _ 6) rfl ?_
        show am_wp _ (_, [_, _, _, _], _) _ _
        refine w_goto s195_1391 rfl ?_
        exact ihn (by omega) _ _ _ (x_G_r hg)
      · skip
        have hj4 : op = 34 := hj3
        clear hj3
        subst hj4
        refine w_tswI (n := 34) s195_33 (by decide) rfl rfl rfl ?_
        refine w_aload_n s195_1338 rfl ?_
        refine w_callV0r s195_1339 hx.o ow74 mc195_74 rfl rfl (c74 hx iv) ?_
        refine w_aload_n s195_1342 rfl ?_
        refine w_callV0r s195_1343 (hw 0 _ rfl) ow172 mc195_172 rfl rfl (c172 hw) ?_
        refine w_icmpeq s195_1346 rfl  (fun c1346 => ?_) (fun c => False.elim (c rfl))
        refine w_iinc s195_1388 rfl (show nI (6 * n) + Int32.ofInt 6 = nI (6 * (n + 1)) from nI_add _ 6) rfl ?_
        show am_wp _ (_, [_, _, _, _], _) _ _
        refine w_goto s195_1391 rfl ?_
        exact ihn (by omega) _ _ _ (x_G_r hg)
      · skip
        have hj4 : op = 35 := hj3
        clear hj3
        subst hj4
        refine w_tswI (n := 35) s195_33 (by decide) rfl rfl rfl ?_
        refine w_aload_n s195_1351 rfl ?_
        refine w_aload_n s195_1352 rfl ?_
        refine w_iload_n s195_1353 rfl ?_
        refine w_iconst (v := 1) s195_1354 rfl ?_
        refine w_iaddN (x := (6 * n)) (y := 1) s195_1355 ?_
        refine w_iald0 (v := xs ((6 * n) + 1)) s195_1356 hsc (am_inb (show ((6 * n) + 1) < L by omega) (by omega)) (by rw [nI_clamp (show ((6 * n) + 1) < 2 ^ 31 by omega)]) ?_
        refine w_callV1r s195_1357 hx.o ow75 mc195_75 rfl rfl (c75 hx iv _) ?_
        refine w_aload_n s195_1360 rfl ?_
        refine w_aload_n s195_1361 rfl ?_
        refine w_iload_n s195_1362 rfl ?_
        refine w_iconst (v := 1) s195_1363 rfl ?_
        refine w_iaddN (x := (6 * n)) (y := 1) s195_1364 ?_
        refine w_iald0 (v := xs ((6 * n) + 1)) s195_1365 hsc (am_inb (show ((6 * n) + 1) < L by omega) (by omega)) (by rw [nI_clamp (show ((6 * n) + 1) < 2 ^ 31 by omega)]) ?_
        refine w_callV1r s195_1366 (hw 0 _ rfl) ow173 mc195_173 rfl rfl (c173 hw _) ?_
        refine w_icmpeq s195_1369 rfl  (fun c1369 => ?_) (fun c => False.elim (c rfl))
        refine w_iinc s195_1388 rfl (show nI (6 * n) + Int32.ofInt 6 = nI (6 * (n + 1)) from nI_add _ 6) rfl ?_
        show am_wp _ (_, [_, _, _, _], _) _ _
        refine w_goto s195_1391 rfl ?_
        exact ihn (by omega) _ _ _ (x_G_r hg)
      · skip
        have hj4 : op = 36 := hj3
        clear hj3
        subst hj4
        refine w_tswI (n := 36) s195_33 (by decide) rfl rfl rfl ?_
        refine w_aload_n s195_1374 rfl ?_
        refine w_callV0r s195_1375 hx.o ow76 mc195_76 rfl rfl (c76 hx iv) ?_
        refine w_aload_n s195_1378 rfl ?_
        refine w_callV0r s195_1379 (hw 0 _ rfl) ow174 mc195_174 rfl rfl (c174 hw iv) ?_
        refine w_lcmp s195_1382 ?_
        refine w_ifeq s195_1383 rfl  (fun c1383 => ?_) (fun c => False.elim (c (x_lgs _)))
        refine w_iinc s195_1388 rfl (show nI (6 * n) + Int32.ofInt 6 = nI (6 * (n + 1)) from nI_add _ 6) rfl ?_
        show am_wp _ (_, [_, _, _, _], _) _ _
        refine w_goto s195_1391 rfl ?_
        exact ihn (by omega) _ _ _ (x_G_r hg)
theorem am_goal (L : Nat) (xs : Nat → Int32) (hL : L ≤ 3072) : ∃ (f : Nat) (h9 : am_H), am_run f 195 (0, [some (.ref 0), none, none, none], []) (am_ex0 L xs) = some (some (.int 1), h9) ∧ h9.length ≤ 600003 ∧ am_sz h9 ≤ L + 7302250 := by
  obtain ⟨f, v, h9, e, rfl, h1, h2⟩ := x_law L xs hL
  exact ⟨f, h9, e, h1, h2⟩
