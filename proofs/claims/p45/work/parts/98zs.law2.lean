set_option maxHeartbeats 400000 in
theorem c_lawB2 {X : ch_X} {E : ch_E} {B T u : Nat} {bf : Int32} {wr : Nat → Int32} {j : Nat} {S S0 : ch_S} {μ μ0 : ch_M} (h : ch_H X E RL cL_law 12) (hG : ch_G X 10 687974 7037776) (kend : ∀ (S : ch_S) (μ : ch_M) (L : List (Nat × Value)), ch_W X E 12 S μ 687974 7037776 486 L [.int 1]) (hX : o_LX E B T bf u j wr S μ) (hu : u ≤ 9) (hB : B + 2000 < 2 ^ 31) (hT : T ≤ 90000) : ch_W X E 12 S μ 687974 7037776 359 [(0, .ref (ch_sb E)), (1, .ref (S.1 15 11 0)), (3, .ref (S.1 16 22 0)), (5, .int bf), (6, .ref (S.1 19 52 0)), (7, .int (nI u))] [] := by
  have hC5 := a_C5 E
  have hs := hX.1.1
  have hZ := hX.1.z
  have hH := hX.1.2.2.2.2.2.1
  obtain ⟨x, hg0, hJ0, ⟨t, ht, htT⟩, -⟩ := hX.1.2.2.2.2.1
  have ba := a_md_lt (x := a_cl E 39) (show 0 < a_C E by omega)
  have bb := a_md_lt (x := a_cl E 40) (show 0 < a_C E by omega)
  have bT := a_md_lt (x := a_cl E 41) (show 0 < 6 by decide)
  refine ca_aload_nr h dL_law_359 rfl ?_
  refine ca_aload_nr h dL_law_360 rfl ?_
  refine ca_aload_nr h dL_law_361 rfl ?_
  refine ca_bipush h dL_law_362 bk_39 ?_
  refine oa_s h hG ms_L_23 (c_L_cell (k := 39) (by decide)) rfl rfl rfl rfl ⟨by omega, by omega⟩ rfl dL_law_364 ?_
  refine ca_aload_nr h dL_law_367 rfl ?_
  refine gi_L_31 h hX.1.2.1.1 dL_law_368 ?_
  refine ca_top (y := nI (a_C E)) hX.1.2.2.1 ?_
  refine oa_s h hG ms_L_27 (c_L_most (by omega) (by omega)) rfl rfl rfl rfl ⟨by omega, by omega⟩ rfl dL_law_371 ?_
  refine ca_aload_nr h dL_law_374 rfl ?_
  refine ca_bipush h dL_law_375 bk_40 ?_
  refine oa_s h hG ms_L_23 (c_L_cell (k := 40) (by decide)) rfl rfl rfl rfl ⟨by omega, by omega⟩ rfl dL_law_377 ?_
  refine ca_aload_nr h dL_law_380 rfl ?_
  refine gi_L_31 h hX.1.2.1.1 dL_law_381 ?_
  refine ca_top (y := nI (a_C E)) hX.1.2.2.1 ?_
  refine oa_s h hG ms_L_27 (c_L_most (by omega) (by omega)) rfl rfl rfl rfl ⟨by omega, by omega⟩ rfl dL_law_384 ?_
  refine ca_aload_nr h dL_law_387 rfl ?_
  refine ca_bipush h dL_law_388 bk_41 ?_
  refine oa_s h hG ms_L_23 (c_L_cell (k := 41) (by decide)) rfl rfl rfl rfl ⟨by omega, by omega⟩ rfl dL_law_390 ?_
  refine ca_bipush h dL_law_393 bk_6 ?_
  refine oa_s h hG ms_L_27 (c_L_most (by decide) (by decide)) rfl rfl rfl rfl ⟨by omega, by omega⟩ rfl dL_law_395 ?_
  refine oa_S h hG ms_L_294 (c_L_isBest (C := a_C E) (T := a_md (a_cl E 41) 6) (B := B) (u := u) (j := j) (t := t) hs hX.1.2.1.1 hZ hJ0 (by omega) ht (by omega) (by omega) ba bb hH.2.2.1 (by omega) hH.2.1 hH.2.2.2.1) rfl rfl rfl rfl ⟨by omega, by omega⟩ rfl dL_law_398 ?_
  intro v S1 μ1 hp
  obtain ⟨rfl, hS1, hU⟩ := hp
  replace hS1 := hS1.symm
  subst hS1
  have hX1 := LX_U hX (by omega) hU
  refine ca_if_eq (tgt := 413) h dL_law_401 (by decide) (fun c_401 => ?_) (fun c_401 => ?_)
  · exact absurd c_401 (by decide)
  ·
    refine ca_aload_nr h dL_law_404 rfl ?_
    refine oa_v h hG ml_L_252 (c_X11_undoCount hs) (ci := 11) rfl rfl rfl (hs.1 _ _ _ ⟨rfl, rfl⟩) rfl rfl rfl rfl ⟨by omega, by omega⟩ rfl dL_law_405 ?_
    rw [hX1.1.2.2.2.2.2.1.2.2.1]
    refine ca_iload h dL_law_408 rfl ?_
    refine ca_icmp_eq (tgt := 415) h dL_law_410 (by decide) (fun c_410 => ?_) (fun c_410 => ?_)
    ·
      exact ca_pick [1, 2, 3, 4, 5] rfl (c_lawA (S0 := S) (μ0 := μ) h hG kend hX1)
    · exact absurd rfl c_410
set_option maxHeartbeats 400000 in
theorem c_lawB {X : ch_X} {E : ch_E} {B T u : Nat} {bf : Int32} {wr : Nat → Int32} {j : Nat} {S S0 : ch_S} {μ μ0 : ch_M} (h : ch_H X E RL cL_law 12) (hG : ch_G X 10 687974 7037776) (kend : ∀ (S : ch_S) (μ : ch_M) (L : List (Nat × Value)), ch_W X E 12 S μ 687974 7037776 486 L [.int 1]) (hX : o_LX E B T bf u j wr S μ) (hu : u ≤ 9) (hB : B + 2000 < 2 ^ 31) (hT : T ≤ 90000) : ch_W X E 12 S μ 687974 7037776 318 [(0, .ref (ch_sb E)), (1, .ref (S.1 15 11 0)), (3, .ref (S.1 16 22 0)), (5, .int bf), (6, .ref (S.1 19 52 0)), (7, .int (nI u))] [] := by
  have hs := hX.1.1
  have hZ := hX.1.z
  have hH := hX.1.2.2.2.2.2.1
  obtain ⟨x, hg0, hJ0, ⟨t, ht, htT⟩, -⟩ := hX.1.2.2.2.2.1
  have bT := a_md_lt (x := a_cl E 38) (show 0 < 12 by decide)
  have hmc := hZ.mc
  have hm12 := hZ.wf.1
  refine ca_aload_nr h dL_law_318 rfl ?_
  refine oa_v h hG ml_L_102 (c_X11_mobileCount hs) (ci := 11) rfl rfl rfl (hs.1 _ _ _ ⟨rfl, rfl⟩) rfl rfl rfl rfl ⟨by omega, by omega⟩ rfl dL_law_319 ?_
  rw [hmc]
  refine ca_if_le (tgt := 359) h dL_law_322 (by decide) (fun c_322 => ?_) (fun c_322 => ?_)
  ·
    exact ca_pick [0, 1, 2, 3, 4, 5] rfl (c_lawB2 (S0 := S) (μ0 := μ) h hG kend hX hu hB hT)
  ·
    have hm0 : 0 < k_mc (μ 0) := (nI_ltI (a := 0) (by decide) (by omega)).mp c_322
    have bm := a_md_lt (x := a_cl E 37) hm0
    refine ca_aload_nr h dL_law_325 rfl ?_
    refine ca_aload_nr h dL_law_326 rfl ?_
    refine ca_aload_nr h dL_law_327 rfl ?_
    refine ca_bipush h dL_law_328 bk_37 ?_
    refine oa_s h hG ms_L_23 (c_L_cell (k := 37) (by decide)) rfl rfl rfl rfl ⟨by omega, by omega⟩ rfl dL_law_330 ?_
    refine ca_aload_nr h dL_law_333 rfl ?_
    refine oa_v h hG ml_L_102 (c_X11_mobileCount hs) (ci := 11) rfl rfl rfl (hs.1 _ _ _ ⟨rfl, rfl⟩) rfl rfl rfl rfl ⟨by omega, by omega⟩ rfl dL_law_334 ?_
    rw [hmc]
    refine oa_s h hG ms_L_27 (c_L_most (by omega) (by omega)) rfl rfl rfl rfl ⟨by omega, by omega⟩ rfl dL_law_337 ?_
    refine ca_aload_nr h dL_law_340 rfl ?_
    refine ca_bipush h dL_law_341 bk_38 ?_
    refine oa_s h hG ms_L_23 (c_L_cell (k := 38) (by decide)) rfl rfl rfl rfl ⟨by omega, by omega⟩ rfl dL_law_343 ?_
    refine ca_bipush h dL_law_346 bk_12 ?_
    refine oa_s h hG ms_L_27 (c_L_most (by decide) (by decide)) rfl rfl rfl rfl ⟨by omega, by omega⟩ rfl dL_law_348 ?_
    refine oa_S h hG ms_L_290 (c_L_isForecast (C := a_C E) (T := a_md (a_cl E 38) 12) (B := B) (u := u) (j := j) (t := t) hs hX.1.2.1.1 hZ hJ0 (by omega) ht (by omega) (by omega) bm hH.2.2.1 (by omega) hH.2.1 hH.2.2.2.1) rfl rfl rfl rfl ⟨by omega, by omega⟩ rfl dL_law_351 ?_
    intro v S1 μ1 hp
    obtain ⟨rfl, hS1, hU⟩ := hp
    replace hS1 := hS1.symm
    subst hS1
    have hX1 := LX_U hX (by omega) hU
    refine ca_if_ne (tgt := 359) h dL_law_354 (by decide) (fun c_354 => ?_) (fun c_354 => ?_)
    ·
      exact ca_pick [0, 1, 2, 3, 4, 5] rfl (c_lawB2 (S0 := S) (μ0 := μ) h hG kend hX1 hu hB hT)
    · exact absurd c_354 (by decide)
set_option maxHeartbeats 400000 in
theorem c_lawC {X : ch_X} {E : ch_E} {B T u : Nat} {bf : Int32} {wr : Nat → Int32} {j : Nat} {S S0 : ch_S} {μ μ0 : ch_M} (h : ch_H X E RL cL_law 12) (hG : ch_G X 10 687974 7037776) (kend : ∀ (S : ch_S) (μ : ch_M) (L : List (Nat × Value)), ch_W X E 12 S μ 687974 7037776 486 L [.int 1]) (hX0 : o_LX E B T bf u j wr S μ) (hB : B + 2000 < 2 ^ 31) (hT : T ≤ 90000) : ch_W X E 12 S μ 687974 7037776 284 [(0, .ref (ch_sb E)), (1, .ref (S.1 15 11 0)), (3, .ref (S.1 16 22 0)), (5, .int bf), (6, .ref (S.1 19 52 0)), (7, .int (nI u))] [] := by
  have loop_284 : ∀ (jj n : Nat), n + jj = u - 9 → ∀ (μi : ch_M) (j : Nat) (hX : o_LX E B T bf (u - n) j wr S μi), ch_W X E 12 S μi 687974 7037776 284 [(0, .ref (ch_sb E)), (1, .ref (S.1 15 11 0)), (3, .ref (S.1 16 22 0)), (5, .int bf), (6, .ref (S.1 19 52 0)), (7, .int (nI (u - n)))] [] := by
    intro jj
    induction jj with
    | zero =>
      intro n hn μi j hX
      have hn : n = u - 9 := by omega
      refine ca_iload h dL_law_284 rfl ?_
      refine ca_bipush h dL_law_286 bk_9 ?_
      refine ca_icmp_le (tgt := 318) h dL_law_288 (by decide) (fun c_288 => ?_) (fun c_288 => ?_)
      ·
        exact ca_pick [0, 1, 2, 3, 4, 5] rfl (c_lawB (S0 := S) (μ0 := μ) h hG kend hX (by omega) hB hT)
      · exact absurd (show (9 : Int32) < nI (u - n) from c_288) (p_hi (h := 9) (by omega) (by decide))
    | succ jj ih_284 =>
      intro n hn μi j hX
      have hn1 : n < u - 9 := by omega
      obtain ⟨r, hr⟩ : ∃ r, u - n = r + 1 := ⟨u - n - 1, by omega⟩
      have er : nI (u - n) - 1 = nI r := by rw [hr, ← nI_1]; exact Int32.add_sub_cancel _ _
      have er2 : nI (u - n) + -1 = nI r := by rw [← er]; exact (Int32.sub_eq_add_neg ..).symm
      have en : u - (n + 1) = r := by omega
      rw [hr] at hX
      have hs := hX.1.1
      have hZ0 := hX.1.z
      have hH := hX.1.2.2.2.2.2.1
      refine ca_iload h dL_law_284 rfl ?_
      refine ca_bipush h dL_law_286 bk_9 ?_
      refine ca_icmp_le (tgt := 318) h dL_law_288 (by decide) (fun c_288 => ?_) (fun c_288 => ?_)
      · exact absurd ((nI_ltI (a := 9) (by decide) (by have := hH.1; omega)).mpr (by omega)) c_288
      ·
        refine ca_iinc h dL_law_291 rfl ik_m1 rfl ?_
        refine ca_aload_nr h dL_law_294 rfl ?_
        refine oa_v h hG ml_L_258 (c_X11_undo hs (v := r) (by have := hH.1; omega) hH.2.2.1 hH.2.1 hH.2.2.2.1) (ci := 11) rfl rfl rfl (hs.1 _ _ _ ⟨rfl, rfl⟩) rfl rfl rfl rfl ⟨by omega, by omega⟩ rfl dL_law_295 ?_
        obtain ⟨hX1, hal, hwu⟩ := LX_undo hX
        generalize up (up μi 0 (k_cp (μi 0) (μi (3 + k_lx j)))) 15 (k_tkb (μi 15) j) = μ3 at hX1 hal hwu ⊢
        have hZ := hX1.1.z
        refine ca_iload h dL_law_298 rfl ?_
        refine ca_icmp_ne (tgt := 316) h dL_law_300 (by decide) (fun c_300 => ?_) (fun c_300 => ?_)
        · exact absurd er2.symm c_300
        ·
          refine ca_aload_nr h dL_law_303 rfl ?_
          refine ca_aload_nr h dL_law_304 rfl ?_
          refine oa_s h hG ms_L_248 (c_L_all hs hX.1.2.1.1 hZ.wf hZ.mc hZ.cc) rfl rfl rfl rfl ⟨by omega, by omega⟩ rfl dL_law_305 ?_
          rw [hal]
          refine ca_aload h dL_law_308 rfl ?_
          refine ca_iload h dL_law_310 rfl ?_
          refine oa_iald h (j := r) rfl (hX.1.2.1.2) er2 (by have := hH.1; omega) (by decide) dL_law_312 ?_
          refine ca_top (y := wr r) hwu ?_
          refine ca_icmp_eq (tgt := 284) h dL_law_313 (by decide) (fun c_313 => ?_) (fun c_313 => ?_)
          ·
            refine ca_pick [1, 2, 3, 4, 5, 0] rfl ?_
            rw [show nI (u - n) + -1 = nI (u - (n + 1)) by rw [er2, en]]
            exact ih_284 (n + 1) (by omega) μ3 (k_lx j) (by rw [en]; exact hX1)
          · exact absurd rfl c_313
  refine ca_pick [0, 1, 2, 3, 4, 5] rfl ?_
  exact loop_284 (u - 9) 0 (Nat.zero_add _) μ j (by rw [Nat.sub_zero]; exact hX0)
