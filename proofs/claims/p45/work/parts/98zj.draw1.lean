set_option maxHeartbeats 400000 in
theorem c_drE {X : ch_X} {E : ch_E} {hy : Nat → Nat → Int32} {sv : Nat → Nat} {S S0 : ch_S} {μ μ0 : ch_M} (h : ch_H X E RL cL_drawn 7) (hG : ch_G X 3 37 312) (hR : ch_R X E (some (FieldType.object "CellHandoverLaw$Own")) 37 312 (o_DR E S0 μ0)) (hb6 : p_b6 sv) (hk : o_hyk (a_C E) hy) (hD : o_dS E (a_C E) hy sv S0 μ0 S μ) : ch_W X E 7 S μ 37 312 315 [(0, .ref (ch_sb E)), (1, .int 0), (2, .ref (S.1 16 22 0)), (3, .int (a_cl E 0))] [] := by
  have hC5 := a_C5 E
  refine ca_iload_n h dL_drawn_315 rfl ?_
  refine ca_iconst h dL_drawn_316 ik_3 ?_
  refine ca_ishr h dL_drawn_317 ?_
  refine ca_iconst h dL_drawn_318 ik_3 ?_
  refine oa_s h hG ms_L_27 (c_L_most (by decide) (by decide)) rfl rfl rfl rfl ⟨by omega, by omega⟩ rfl dL_drawn_319 ?_
  refine ca_if_le (tgt := 423) h dL_drawn_322 (by decide) (fun c_322 => ?_) (fun c_322 => ?_)
  ·
    refine ca_aload_nr h dL_drawn_423 rfl ?_
    refine ca_widen (k := 37) (n := 312) (by omega) (by omega) ?_
    refine ca_areturn h hR dL_drawn_424 ?_
    exact ⟨rfl, hy, sv, hD, hk, hb6⟩
  ·
    refine ca_aload_nr h dL_drawn_325 rfl ?_
    refine ca_iload_n h dL_drawn_326 rfl ?_
    refine ca_bipush h dL_drawn_327 bk_12 ?_
    refine ca_iadd h dL_drawn_329 ?_
    refine ca_top (y := nI 12) (by decide) ?_
    refine oa_s h hG ms_L_23 (c_L_cell (k := 12) (by decide)) rfl rfl rfl rfl ⟨by omega, by omega⟩ rfl dL_drawn_330 ?_
    refine ca_istore h dL_drawn_333 rfl ?_
    refine ca_aload_nr h dL_drawn_335 rfl ?_
    refine ca_iconst h dL_drawn_336 ik_1 ?_
    refine ca_iload h dL_drawn_337 rfl ?_
    refine ca_bipush h dL_drawn_339 bk_8 ?_
    refine oa_s h hG ms_L_27 (c_L_most (by decide) (by decide)) rfl rfl rfl rfl ⟨by omega, by omega⟩ rfl dL_drawn_341 ?_
    refine ca_iadd h dL_drawn_344 ?_
    refine ca_top (y := nI (1 + a_md (a_cl E 12) 8)) (show nI 1 + _ = _ from nI_add ..) ?_
    refine pi_L_41 h (hD.2.1.1 _ _ _ (by show _ ∧ _; omega)) dL_drawn_345 ?_
    replace hD := o_dS_sv hD (s := 3) (j := 0) (v := (1 + a_md (a_cl E 12) 8)) rfl
    generalize ch_st μ 16 22 0 3 (nI (1 + a_md (a_cl E 12) 8)) = m0 at hD ⊢
    refine ca_aload_nr h dL_drawn_348 rfl ?_
    refine ca_iconst h dL_drawn_349 ik_1 ?_
    refine ca_iload h dL_drawn_350 rfl ?_
    refine ca_iconst h dL_drawn_352 ik_2 ?_
    refine ca_ishr h dL_drawn_353 ?_
    refine ca_aload_nr h dL_drawn_354 rfl ?_
    refine gi_L_41 h (hD.2.1.1 _ _ _ (by show _ ∧ _; omega)) dL_drawn_355 ?_
    refine ca_top (y := nI (1 + a_md (a_cl E 12) 8)) (hD.2.2.2.1 0 (by decide)) ?_
    refine oa_s h hG ms_L_27 (c_L_most (by omega) (by have := a_md_lt (x := a_cl E 12) (show 0 < 8 by decide); omega)) rfl rfl rfl rfl ⟨by omega, by omega⟩ rfl dL_drawn_358 ?_
    refine ca_iadd h dL_drawn_361 ?_
    refine ca_top (y := nI (1 + a_md ((a_cl E 12) >>> (2 &&& 31)) (1 + a_md (a_cl E 12) 8))) (show nI 1 + _ = _ from nI_add ..) ?_
    refine pi_L_44 h (hD.2.1.1 _ _ _ (by show _ ∧ _; omega)) dL_drawn_362 ?_
    replace hD := o_dS_sv hD (s := 4) (j := 1) (v := (1 + a_md ((a_cl E 12) >>> (2 &&& 31)) (1 + a_md (a_cl E 12) 8))) rfl
    generalize ch_st m0 16 22 0 4 (nI (1 + a_md ((a_cl E 12) >>> (2 &&& 31)) (1 + a_md (a_cl E 12) 8))) = m1 at hD ⊢
    refine ca_aload_nr h dL_drawn_365 rfl ?_
    refine ca_iload h dL_drawn_366 rfl ?_
    refine ca_iconst h dL_drawn_368 ik_4 ?_
    refine ca_ishr h dL_drawn_369 ?_
    refine ca_bipush h dL_drawn_370 bk_10 ?_
    refine oa_s h hG ms_L_27 (c_L_most (by decide) (by decide)) rfl rfl rfl rfl ⟨by omega, by omega⟩ rfl dL_drawn_372 ?_
    refine pi_L_47 h (hD.2.1.1 _ _ _ (by show _ ∧ _; omega)) dL_drawn_375 ?_
    replace hD := o_dS_sv hD (s := 5) (j := 2) (v := (a_md ((a_cl E 12) >>> (4 &&& 31)) 10)) rfl
    generalize ch_st m1 16 22 0 5 (nI (a_md ((a_cl E 12) >>> (4 &&& 31)) 10)) = m2 at hD ⊢
    refine ca_aload_nr h dL_drawn_378 rfl ?_
    refine ca_iconst h dL_drawn_379 ik_1 ?_
    refine ca_iload h dL_drawn_380 rfl ?_
    refine ca_bipush h dL_drawn_382 bk_6 ?_
    refine ca_ishr h dL_drawn_384 ?_
    refine ca_bipush h dL_drawn_385 bk_8 ?_
    refine oa_s h hG ms_L_27 (c_L_most (by decide) (by decide)) rfl rfl rfl rfl ⟨by omega, by omega⟩ rfl dL_drawn_387 ?_
    refine ca_iadd h dL_drawn_390 ?_
    refine ca_top (y := nI (1 + a_md ((a_cl E 12) >>> (6 &&& 31)) 8)) (show nI 1 + _ = _ from nI_add ..) ?_
    refine pi_L_50 h (hD.2.1.1 _ _ _ (by show _ ∧ _; omega)) dL_drawn_391 ?_
    replace hD := o_dS_sv hD (s := 6) (j := 3) (v := (1 + a_md ((a_cl E 12) >>> (6 &&& 31)) 8)) rfl
    generalize ch_st m2 16 22 0 6 (nI (1 + a_md ((a_cl E 12) >>> (6 &&& 31)) 8)) = m3 at hD ⊢
    refine ca_aload_nr h dL_drawn_394 rfl ?_
    refine ca_iload h dL_drawn_395 rfl ?_
    refine ca_bipush h dL_drawn_397 bk_8 ?_
    refine ca_ishr h dL_drawn_399 ?_
    refine ca_bipush h dL_drawn_400 bk_40 ?_
    refine oa_s h hG ms_L_27 (c_L_most (by decide) (by decide)) rfl rfl rfl rfl ⟨by omega, by omega⟩ rfl dL_drawn_402 ?_
    refine pi_L_53 h (hD.2.1.1 _ _ _ (by show _ ∧ _; omega)) dL_drawn_405 ?_
    replace hD := o_dS_sv hD (s := 7) (j := 4) (v := (a_md ((a_cl E 12) >>> (8 &&& 31)) 40)) rfl
    generalize ch_st m3 16 22 0 7 (nI (a_md ((a_cl E 12) >>> (8 &&& 31)) 40)) = m4 at hD ⊢
    refine ca_aload_nr h dL_drawn_408 rfl ?_
    refine ca_iconst h dL_drawn_409 ik_1 ?_
    refine ca_iload h dL_drawn_410 rfl ?_
    refine ca_bipush h dL_drawn_412 bk_10 ?_
    refine ca_ishr h dL_drawn_414 ?_
    refine ca_iconst h dL_drawn_415 ik_4 ?_
    refine oa_s h hG ms_L_27 (c_L_most (by decide) (by decide)) rfl rfl rfl rfl ⟨by omega, by omega⟩ rfl dL_drawn_416 ?_
    refine ca_iadd h dL_drawn_419 ?_
    refine ca_top (y := nI (1 + a_md ((a_cl E 12) >>> (10 &&& 31)) 4)) (show nI 1 + _ = _ from nI_add ..) ?_
    refine pi_L_56 h (hD.2.1.1 _ _ _ (by show _ ∧ _; omega)) dL_drawn_420 ?_
    replace hD := o_dS_sv hD (s := 8) (j := 5) (v := (1 + a_md ((a_cl E 12) >>> (10 &&& 31)) 4)) rfl
    generalize ch_st m4 16 22 0 8 (nI (1 + a_md ((a_cl E 12) >>> (10 &&& 31)) 4)) = m5 at hD ⊢
    refine ca_aload_nr h dL_drawn_423 rfl ?_
    refine ca_widen (k := 37) (n := 312) (by omega) (by omega) ?_
    refine ca_areturn h hR dL_drawn_424 ?_
    have b0 := a_md_lt (x := (a_cl E 12)) (show 0 < 8 by decide)
    have b1 := a_md_lt (x := (a_cl E 12) >>> (2 &&& 31)) (show 0 < (1 + a_md (a_cl E 12) 8) by omega)
    have b2 := a_md_lt (x := (a_cl E 12) >>> (4 &&& 31)) (show 0 < 10 by decide)
    have b3 := a_md_lt (x := (a_cl E 12) >>> (6 &&& 31)) (show 0 < 8 by decide)
    have b4 := a_md_lt (x := (a_cl E 12) >>> (8 &&& 31)) (show 0 < 40 by decide)
    have b5 := a_md_lt (x := (a_cl E 12) >>> (10 &&& 31)) (show 0 < 4 by decide)
    refine ⟨rfl, hy, _, hD, hk, ?_⟩
    unfold p_b6
    simp only [show ¬ (0 = 1) by decide, show ¬ (0 = 2) by decide, show ¬ (0 = 3) by decide, show ¬ (0 = 4) by decide, show ¬ (0 = 5) by decide, show ¬ (1 = 2) by decide, show ¬ (1 = 3) by decide, show ¬ (1 = 4) by decide, show ¬ (1 = 5) by decide, show ¬ (2 = 3) by decide, show ¬ (2 = 4) by decide, show ¬ (2 = 5) by decide, show ¬ (3 = 4) by decide, show ¬ (3 = 5) by decide, show ¬ (4 = 5) by decide, if_true, if_false]
    omega
set_option maxHeartbeats 400000 in
theorem c_drD {X : ch_X} {E : ch_E} {hy : Nat → Nat → Int32} {sv : Nat → Nat} {S S0 : ch_S} {μ μ0 : ch_M} (h : ch_H X E RL cL_drawn 7) (hG : ch_G X 3 37 312) (hR : ch_R X E (some (FieldType.object "CellHandoverLaw$Own")) 37 312 (o_DR E S0 μ0)) (hb6 : p_b6 sv) (hk0 : o_hyk (a_C E) hy) (hD : o_dS E (a_C E) hy sv S0 μ0 S μ) : ch_W X E 7 S μ 37 312 218 [(0, .ref (ch_sb E)), (1, .int 0), (2, .ref (S.1 16 22 0)), (3, .int (a_cl E 0))] [] := by
  have hC5 := a_C5 E
  have hC31 : a_C E < 2 ^ 31 := by omega
  refine ca_aload_nr h dL_drawn_218 rfl ?_
  refine ca_iload_n h dL_drawn_219 rfl ?_
  refine ca_bipush h dL_drawn_220 bk_6 ?_
  refine ca_iadd h dL_drawn_222 ?_
  refine ca_top (y := nI 6) (by decide) ?_
  refine oa_s h hG ms_L_23 (c_L_cell (k := 6) (by decide)) rfl rfl rfl rfl ⟨by omega, by omega⟩ rfl dL_drawn_223 ?_
  refine ca_istore h dL_drawn_226 rfl ?_
  refine ca_iconst h dL_drawn_228 ik_0 ?_
  refine ca_istore h dL_drawn_229 rfl ?_
  have loop_231 : ∀ (jj a : Nat), a + jj = a_C E → ∀ (μi : ch_M) (hi : Nat → Nat → Int32) (hD : o_dS E (a_C E) hi sv S0 μ0 S μi) (hk : o_hyk (a_C E) hi), ch_W X E 7 S μi 37 312 231 [(0, .ref (ch_sb E)), (1, .int 0), (2, .ref (S.1 16 22 0)), (3, .int (a_cl E 0)), (4, .int (a_cl E 6)), (5, .int (nI a))] [] := by
    intro jj
    induction jj with
    | zero =>
      intro a hn μi hi hD hk
      have hn : a = a_C E := by omega
      refine ca_iload h dL_drawn_231 rfl ?_
      refine ca_aload_nr h dL_drawn_233 rfl ?_
      refine gi_L_31 h (hD.2.1.1 _ _ _ (by show _ ∧ _; omega)) dL_drawn_234 ?_
      refine ca_top (y := nI (a_C E)) hD.2.2.1.1 ?_
      refine ca_icmp_ge (tgt := 315) h dL_drawn_237 (by decide) (fun c_237 => ?_) (fun c_237 => ?_)
      ·
        exact ca_pick [0, 1, 2, 3] rfl (c_drE h hG hR hb6 hk hD)
      · exact absurd (show nI a < nI (a_C E) from c_237) (by rw [hn]; exact Int32.lt_irrefl)
    | succ jj ih_231 =>
      intro a hn μi hi hD hk
      have hn1 : a < a_C E := by omega
      refine ca_iload h dL_drawn_231 rfl ?_
      refine ca_aload_nr h dL_drawn_233 rfl ?_
      refine gi_L_31 h (hD.2.1.1 _ _ _ (by show _ ∧ _; omega)) dL_drawn_234 ?_
      refine ca_top (y := nI (a_C E)) hD.2.2.1.1 ?_
      refine ca_icmp_ge (tgt := 315) h dL_drawn_237 (by decide) (fun c_237 => ?_) (fun c_237 => ?_)
      · exact absurd ((nI_ltI (by omega) (by omega)).mpr hn1) c_237
      ·
        refine ca_iconst h dL_drawn_240 ik_0 ?_
        refine ca_istore h dL_drawn_241 rfl ?_
        have loop_243 : ∀ (jj b : Nat), b + jj = a_C E → ∀ (μj : ch_M) (hj : Nat → Nat → Int32) (hD : o_dS E (a_C E) hj sv S0 μ0 S μj) (hk : o_hyk (a_C E) hj), ch_W X E 7 S μj 37 312 243 [(0, .ref (ch_sb E)), (1, .int 0), (2, .ref (S.1 16 22 0)), (3, .int (a_cl E 0)), (4, .int (a_cl E 6)), (5, .int (nI a)), (6, .int (nI b))] [] := by
          intro jj
          induction jj with
          | zero =>
            intro b hn μj hj hD hk
            have hn : b = a_C E := by omega
            refine ca_iload h dL_drawn_243 rfl ?_
            refine ca_aload_nr h dL_drawn_245 rfl ?_
            refine gi_L_31 h (hD.2.1.1 _ _ _ (by show _ ∧ _; omega)) dL_drawn_246 ?_
            refine ca_top (y := nI (a_C E)) hD.2.2.1.1 ?_
            refine ca_icmp_ge (tgt := 309) h dL_drawn_249 (by decide) (fun c_249 => ?_) (fun c_249 => ?_)
            ·
              refine ca_iinc h dL_drawn_309 rfl ik_1 rfl ?_
              rw [show nI a + 1 = nI (a + 1) from nI_1 _]
              refine ca_goto (tgt := 231) h dL_drawn_312 (by decide) ?_
              refine ca_pick [1, 2, 3, 4, 5, 0] rfl ?_
              exact ih_231 (a + 1) (by omega) μj hj hD hk
            · exact absurd (show nI b < nI (a_C E) from c_249) (by rw [hn]; exact Int32.lt_irrefl)
          | succ jj ih_243 =>
            intro b hn μj hj hD hk
            have hn1 : b < a_C E := by omega
            refine ca_iload h dL_drawn_243 rfl ?_
            refine ca_aload_nr h dL_drawn_245 rfl ?_
            refine gi_L_31 h (hD.2.1.1 _ _ _ (by show _ ∧ _; omega)) dL_drawn_246 ?_
            refine ca_top (y := nI (a_C E)) hD.2.2.1.1 ?_
            refine ca_icmp_ge (tgt := 309) h dL_drawn_249 (by decide) (fun c_249 => ?_) (fun c_249 => ?_)
            · exact absurd ((nI_ltI (by omega) (by omega)).mpr hn1) c_249
            ·
              refine ca_iload h dL_drawn_252 rfl ?_
              refine ca_iload h dL_drawn_254 rfl ?_
              refine ca_icmp_eq (tgt := 303) h dL_drawn_256 (by decide) (fun c_256 => ?_) (fun c_256 => ?_)
              ·
                refine ca_iinc h dL_drawn_303 rfl ik_1 rfl ?_
                rw [show nI b + 1 = nI (b + 1) from nI_1 _]
                refine ca_goto (tgt := 243) h dL_drawn_306 (by decide) ?_
                refine ca_pick [1, 2, 3, 4, 5, 6, 0] rfl ?_
                exact ih_243 (b + 1) (by omega) μj hj hD hk
              ·
                refine ca_iload h dL_drawn_259 rfl ?_
                refine ca_iload h dL_drawn_261 rfl ?_
                refine ca_iload h dL_drawn_263 rfl ?_
                refine ca_iadd h dL_drawn_265 ?_
                refine ca_top (y := nI (a + b)) (nI_add ..) ?_
                refine ca_ishr h dL_drawn_266 ?_
                refine ca_iconst h dL_drawn_267 ik_4 ?_
                refine oa_s h hG ms_L_27 (c_L_most (by decide) (by decide)) rfl rfl rfl rfl ⟨by omega, by omega⟩ rfl dL_drawn_268 ?_
                refine ca_if_le (tgt := 303) h dL_drawn_271 (by decide) (fun c_271 => ?_) (fun c_271 => ?_)
                ·
                  refine ca_iinc h dL_drawn_303 rfl ik_1 rfl ?_
                  rw [show nI b + 1 = nI (b + 1) from nI_1 _]
                  refine ca_goto (tgt := 243) h dL_drawn_306 (by decide) ?_
                  refine ca_pick [1, 2, 3, 4, 5, 6, 0] rfl ?_
                  exact ih_243 (b + 1) (by omega) μj hj hD hk
                ·
                  have hne : a ≠ b := fun z => c_256 (by rw [z])
                  have hst := hD.2.1
                  have ha8 : a < 8 := by omega
                  have hb8 : b < 8 := by omega
                  refine ca_aload_nr h dL_drawn_274 rfl ?_
                  refine gr_L_38 h (hst.1 _ _ _ (by show _ ∧ _; omega)) (hst.2.1 _ _ _ _ _ (by show _ ∧ _; omega) rfl) dL_drawn_275 ?_
                  show ch_W X E _ _ _ _ _ _ _ (.ref (S.1 16 24 1) :: _)
                  refine ca_iload h dL_drawn_278 rfl ?_
                  refine oa_aald h (j := a) rfl (by decide) (hst.1 _ _ _ (by show _ ∧ _; omega)) rfl (by omega) (by decide) (hst.2.1 _ _ _ _ _ (by show _ ∧ _; omega) (o_rt241 (by omega))) dL_drawn_280 ?_
                  show ch_W X E _ _ _ _ _ _ _ (.ref (S.1 16 48 (8 + a)) :: _)
                  refine ca_iload h dL_drawn_281 rfl ?_
                  refine ca_aload_nr h dL_drawn_283 rfl ?_
                  refine ca_iload_n h dL_drawn_284 rfl ?_
                  refine ca_bipush h dL_drawn_285 bk_7 ?_
                  refine ca_iadd h dL_drawn_287 ?_
                  refine ca_top (y := nI 7) (by decide) ?_
                  refine ca_iload h dL_drawn_288 rfl ?_
                  refine ca_iadd h dL_drawn_290 ?_
                  refine ca_top (y := nI (7 + a)) (nI_add ..) ?_
                  refine oa_s h hG ms_L_23 (c_L_cell (k := 7 + a) (by omega)) rfl rfl rfl rfl ⟨by omega, by omega⟩ rfl dL_drawn_291 ?_
                  refine ca_iload h dL_drawn_294 rfl ?_
                  refine ca_ishr h dL_drawn_296 ?_
                  refine ca_bipush h dL_drawn_297 bk_12 ?_
                  refine oa_s h hG ms_L_27 (c_L_most (by decide) (by decide)) rfl rfl rfl rfl ⟨by omega, by omega⟩ rfl dL_drawn_299 ?_
                  refine oa_iast h (j := b) rfl (hst.1 _ _ _ (by show _ ∧ _; omega)) rfl (by omega) (by decide) dL_drawn_302 ?_
                  have bd := a_md_lt (x := a_cl E (7 + a) >>> (nI b &&& 31)) (show 0 < 12 by decide)
                  have hD1 := o_dS_hy hD (by omega) (a := a) (b := b) (v := nI (a_md (a_cl E (7 + a) >>> (nI b &&& 31)) 12)) ha8 hb8
                  have hk1 := o_hyk_up hk (a := a) (b := b) (d := a_md (a_cl E (7 + a) >>> (nI b &&& 31)) 12) (by omega) (by omega) hne (by omega)
                  refine ca_iinc h dL_drawn_303 rfl ik_1 rfl ?_
                  rw [show nI b + 1 = nI (b + 1) from nI_1 _]
                  refine ca_goto (tgt := 243) h dL_drawn_306 (by decide) ?_
                  refine ca_pick [1, 2, 3, 4, 5, 6, 0] rfl ?_
                  exact ih_243 (b + 1) (by omega) _ _ hD1 hk1
        refine ca_pick [1, 2, 3, 4, 5, 6, 0] rfl ?_
        exact loop_243 (a_C E) 0 (Nat.zero_add _) μi hi hD hk
  refine ca_pick [2, 3, 4, 5, 1, 0] rfl ?_
  exact loop_231 (a_C E) 0 (Nat.zero_add _) μ hy hD hk0
