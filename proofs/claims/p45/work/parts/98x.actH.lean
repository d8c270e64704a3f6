set_option maxHeartbeats 800000 in
theorem c_actH {X : ch_X} {E : ch_E} {n : ch_N} {B j : Nat} {S S0 : ch_S} {μ μ0 : ch_M} (h : ch_H X E RL cL_act 11) (hG : ch_G X 7 11 29) (hR : ch_R X E (some FieldType.int) 11 29 (o_PA n B j S μ)) {w : Nat → Int32} (hs : ch_Std E S) (e0 : μ 0 = n) (hN : o_NW n w S μ) (hJ : s_J B n) (hB : B + 2 < 2 ^ 31) (hj : j < 12) (hnx : μ 15 14 0 1 = nI j) {v u : Int32} {W m : Nat} (hm : m < k_mc n) : ch_W X E 11 S μ 0 0 277 [(0, .ref (S.1 15 11 0)), (1, .ref (S.1 16 22 0)), (2, .int v), (3, .int (nI W)), (4, .int u), (5, .int (nI m)), (6, .ref (S.1 16 23 m))] [] := by
  have hm12 := hN.m12
  have hc8 := hN.c8
  have hm12' : m < 12 := by omega
  have hst12 : ¬ n 3 m 4 = 0 → 0 < n 3 m 4 := fun z => by rcases (hN.rn.2.2.2.2.1 m hm).2.2.2.2.1 with y | y | y; (· exact absurd y z); (· rw [y]; decide); (· rw [y]; decide)
  refine ca_aload h dL_act_277 rfl ?_
  refine gi_L_173 h (hN.st.1 _ _ _ (by show _ ∧ _; omega)) dL_act_279 ?_
  refine ca_top (y := n 3 m 4) (hN.mf (f := 4) (by omega) (by decide)) ?_
  refine ca_if_ne (tgt := 290) h dL_act_282 (by decide) (fun c_282 => ?_) (fun c_282 => ?_)
  ·
    refine ca_aload h dL_act_290 rfl ?_
    refine gi_L_173 h (hN.st.1 _ _ _ (by show _ ∧ _; omega)) dL_act_292 ?_
    refine ca_top (y := n 3 m 4) (hN.mf (f := 4) (by omega) (by decide)) ?_
    refine ca_istore h dL_act_295 rfl ?_
    refine ca_iload h dL_act_297 rfl ?_
    refine ca_if_le (tgt := 307) h dL_act_299 (by decide) (fun c_299 => ?_) (fun c_299 => ?_)
    · exact absurd (hst12 c_282) c_299
    ·
      refine ca_aload h dL_act_302 rfl ?_
      refine oa_n h hG (host := "CellHandoverLaw") (List.mem_of_getElem? (i := 15) rfl) kw_738 ks_23 kw_25 kw_740 (n := 0) ⟨by decide, by decide, by decide +kernel⟩ (c_X12_endsM hN.st (m := m) hm) (ci := 12) rfl rfl rfl (hN.st.1 _ _ _ (by show _ ∧ _; omega)) rfl rfl rfl rfl ⟨by omega, by omega⟩ rfl dL_act_304 ?_
      have hf : o_fr S μ S (ch_st (ch_st (ch_st (ch_st μ 16 23 m 4 0) 16 23 m 5 (-1)) 16 23 m 6 0) 16 23 m 8 (-1)) := o_fr_st (o_fr_st (o_fr_st (o_fr_st (o_fr_0 (S := S) (μ := μ)))))
      have e1 := (hf.1 0 (by decide) (by decide) (by decide) (by decide) (by decide)).2.2.2.trans e0
      have hn1 := (congrFun (congrFun (congrFun (hf.1 15 (by decide) (by decide) (by decide) (by decide) (by decide)).2.2.2 14) 0) 1).trans hnx
      refine ca_aload_nr h dL_act_307 rfl ?_
      refine ca_iload h dL_act_308 rfl ?_
      refine oa_v h hG ml_L_234 (c_X11_hangUp hs (by rw [e1]; exact hN.m12) (by rw [e1]; exact hm) (by rw [e1]; exact c_282) hj hn1) (ci := 11) rfl rfl rfl (hs.1 _ _ _ ⟨rfl, rfl⟩) rfl rfl rfl rfl ⟨by omega, by omega⟩ rfl dL_act_310 ?_
      rw [e1]
      refine ca_iload h dL_act_313 rfl ?_
      refine ca_icmp_eq (tgt := 322) h dL_act_315 (by decide) (fun c_315 => ?_) (fun c_315 => ?_)
      ·
        refine ca_iload h dL_act_322 rfl ?_
        refine ca_if_ge (tgt := 331) h dL_act_324 (by decide) (fun c_324 => ?_) (fun c_324 => ?_)
        ·
          refine ca_iconst h dL_act_331 ik_1 ?_
          refine ca_widen (k := 11) (n := 29) (by omega) (by omega) ?_
          refine ca_ireturn h hR rfl dL_act_332 ?_
          exact o_PA_1 (o_fa_fr hf) (o_NW_end hN hm) (s_J_mono (s_J_idle hJ m) (Nat.le_succ B)) (k_cc_0 (k_idle_ne (by decide) (by decide) (by decide))) (by rw [k_idle_ne (by decide) (by decide) (by decide)]) (by rw [hf.2.1.1]) hj
        · exact absurd c_324 (fun z => Int32.lt_irrefl (Int32.lt_trans z (hst12 c_282)))
      · exact absurd rfl c_315
  ·
    refine ca_bipush h dL_act_285 bk_m2 ?_
    refine ca_goto (tgt := 295) h dL_act_287 (by decide) ?_
    refine ca_istore h dL_act_295 rfl ?_
    refine ca_iload h dL_act_297 rfl ?_
    refine ca_if_le (tgt := 307) h dL_act_299 (by decide) (fun c_299 => ?_) (fun c_299 => ?_)
    ·
      refine ca_aload_nr h dL_act_307 rfl ?_
      refine ca_iload h dL_act_308 rfl ?_
      refine oa_v h hG ml_L_234 (c_X11_hangUpI hs (by rw [e0]; exact hN.m12) (by rw [e0]; exact hm) (by rw [e0]; exact c_282)) (ci := 11) rfl rfl rfl (hs.1 _ _ _ ⟨rfl, rfl⟩) rfl rfl rfl rfl ⟨by omega, by omega⟩ rfl dL_act_310 ?_
      refine ca_iload h dL_act_313 rfl ?_
      refine ca_icmp_eq (tgt := 322) h dL_act_315 (by decide) (fun c_315 => ?_) (fun c_315 => ?_)
      ·
        refine ca_iload h dL_act_322 rfl ?_
        refine ca_if_ge (tgt := 331) h dL_act_324 (by decide) (fun c_324 => ?_) (fun c_324 => ?_)
        · exact absurd (by decide) c_324
        ·
          refine ca_iconst h dL_act_327 ik_0 ?_
          refine ca_goto (tgt := 332) h dL_act_328 (by decide) ?_
          refine ca_widen (k := 11) (n := 29) (by omega) (by omega) ?_
          refine ca_ireturn h hR rfl dL_act_332 ?_
          exact o_PA_0 o_fa_0 hN hJ rfl
      · exact absurd rfl c_315
    · exact absurd c_299 (by decide)
set_option maxHeartbeats 800000 in
theorem c_actV {X : ch_X} {E : ch_E} {n : ch_N} {B j : Nat} {S S0 : ch_S} {μ μ0 : ch_M} (h : ch_H X E RL cL_act 11) (hG : ch_G X 7 11 29) (hR : ch_R X E (some FieldType.int) 11 29 (o_PA n B j S μ)) {w : Nat → Int32} (hs : ch_Std E S) (e0 : μ 0 = n) (hN : o_NW n w S μ) (hJ : s_J B n) (hB : B + 2 < 2 ^ 31) (hj : j < 12) (hnx : μ 15 14 0 1 = nI j) {v u : Int32} {W m : Nat} (hm : m < k_mc n) : ch_W X E 11 S μ 0 0 339 [(0, .ref (S.1 15 11 0)), (1, .ref (S.1 16 22 0)), (2, .int v), (3, .int (nI W)), (4, .int u), (5, .int (nI m)), (6, .ref (S.1 16 23 m))] [] := by
  have hm12 := hN.m12
  have hc8 := hN.c8
  have hm12' : m < 12 := by omega
  refine ca_aload h dL_act_339 rfl ?_
  refine ca_iload h dL_act_341 rfl ?_
  refine ca_iconst h dL_act_343 ik_4 ?_
  refine ca_ishr h dL_act_344 ?_
  refine ca_bipush h dL_act_345 bk_99 ?_
  refine oa_s h hG ms_L_27 (c_L_most (by decide) (by decide)) rfl rfl rfl rfl ⟨by omega, by omega⟩ rfl dL_act_347 ?_
  refine ca_bipush h dL_act_350 bk_49 ?_
  refine ca_isub h dL_act_352 ?_
  refine pi_L_217 h (hN.st.1 _ _ _ (by show _ ∧ _; omega)) dL_act_353 ?_
  refine ca_aload h dL_act_356 rfl ?_
  refine ca_iload h dL_act_358 rfl ?_
  refine ca_bipush h dL_act_360 bk_6 ?_
  refine ca_ishr h dL_act_362 ?_
  refine ca_bipush h dL_act_363 bk_99 ?_
  refine oa_s h hG ms_L_27 (c_L_most (by decide) (by decide)) rfl rfl rfl rfl ⟨by omega, by omega⟩ rfl dL_act_365 ?_
  refine ca_bipush h dL_act_368 bk_49 ?_
  refine ca_isub h dL_act_370 ?_
  refine pi_L_220 h (hN.st.1 _ _ _ (by show _ ∧ _; omega)) dL_act_371 ?_
  have hf : o_fr S μ S (ch_st (ch_st μ 16 23 m 2 (nI (a_md (u >>> (4 &&& 31)) 99) - 49)) 16 23 m 3 (nI (a_md (u >>> (6 &&& 31)) 99) - 49)) := o_fr_st (o_fr_st (o_fr_0 (S := S) (μ := μ)))
  have e1 := (hf.1 0 (by decide) (by decide) (by decide) (by decide) (by decide)).2.2.2.trans e0
  have hn1 := (congrFun (congrFun (congrFun (hf.1 15 (by decide) (by decide) (by decide) (by decide) (by decide)).2.2.2 14) 0) 1).trans hnx
  refine ca_aload_nr h dL_act_374 rfl ?_
  refine ca_iload h dL_act_375 rfl ?_
  refine ca_aload h dL_act_377 rfl ?_
  refine gi_L_217 h (hN.st.1 _ _ _ (by show _ ∧ _; omega)) dL_act_379 ?_
  refine ca_top (y := (nI (a_md (u >>> (4 &&& 31)) 99) - 49)) (by repeat (first | rw [ch_st_at, if_pos ⟨rfl, rfl, rfl, rfl⟩] | rw [ch_st_at, if_neg (by omega)])) ?_
  refine ca_aload h dL_act_382 rfl ?_
  refine gi_L_220 h (hN.st.1 _ _ _ (by show _ ∧ _; omega)) dL_act_384 ?_
  refine ca_top (y := (nI (a_md (u >>> (6 &&& 31)) 99) - 49)) (by repeat (first | rw [ch_st_at, if_pos ⟨rfl, rfl, rfl, rfl⟩] | rw [ch_st_at, if_neg (by omega)])) ?_
  refine oa_v h hG ml_L_237 (c_X11_setVelocity hs (by rw [e1]; exact hN.m12) (by rw [e1]; exact hm) (r_vel (a_md_lt (by decide))) (r_vel (a_md_lt (by decide))) hj hn1) (ci := 11) rfl rfl rfl (hs.1 _ _ _ ⟨rfl, rfl⟩) rfl rfl rfl rfl ⟨by omega, by omega⟩ rfl dL_act_387 ?_
  rw [e1]
  refine ca_aload h dL_act_390 rfl ?_
  refine gi_L_173 h (hN.st.1 _ _ _ (by show _ ∧ _; omega)) dL_act_392 ?_
  refine ca_top (y := n 3 m 4) (by unfold k_rcm; rw [up_n (by decide), up_n (by decide), up_n (by omega)]; (repeat rw [ch_st_at, if_neg (by omega)]); exact hN.mf (f := 4) (by omega) (by decide)) ?_
  refine ca_icmp_eq (tgt := 402) h dL_act_395 (by decide) (fun c_395 => ?_) (fun c_395 => ?_)
  ·
    refine ca_iconst h dL_act_402 ik_1 ?_
    refine ca_widen (k := 11) (n := 29) (by omega) (by omega) ?_
    refine ca_ireturn h hR rfl dL_act_403 ?_
    exact o_PA_1 (o_fa_fr hf) (o_NW_vel hN hm) (s_J_mono (s_J_vel hJ m) (Nat.le_succ B)) (k_cc_0 (by rw [nw_k (by decide), nw_k (by decide)])) (by rw [nw_k (by decide), nw_k (by decide)]) (by rw [hf.2.1.1]) hj
  · exact absurd rfl c_395
set_option maxHeartbeats 800000 in
theorem c_actY {X : ch_X} {E : ch_E} {n : ch_N} {B j : Nat} {S S0 : ch_S} {μ μ0 : ch_M} (h : ch_H X E RL cL_act 11) (hG : ch_G X 7 11 29) (hR : ch_R X E (some FieldType.int) 11 29 (o_PA n B j S μ)) {w : Nat → Int32} (hs : ch_Std E S) (e0 : μ 0 = n) (hN : o_NW n w S μ) (hJ : s_J B n) (hB : B + 2 < 2 ^ 31) (hj : j < 12) (hnx : μ 15 14 0 1 = nI j) {v u : Int32} {W m : Nat} (hm : m < k_mc n) (hcc0 : 0 < k_cc n) : ch_W X E 11 S μ 0 0 404 [(0, .ref (S.1 15 11 0)), (1, .ref (S.1 16 22 0)), (2, .int v), (3, .int (nI W)), (4, .int u), (5, .int (nI m)), (6, .ref (S.1 16 23 m))] [] := by
  have hm12 := hN.m12
  have hc8 := hN.c8
  have hm12' : m < 12 := by omega
  refine ca_iload h dL_act_404 rfl ?_
  refine ca_aload_nr h dL_act_406 rfl ?_
  refine gi_L_31 h (hN.st.1 _ _ _ (by show _ ∧ _; omega)) dL_act_407 ?_
  refine ca_top (y := nI (k_cc n)) hN.cells ?_
  refine oa_s h hG ms_L_27 (c_L_most hcc0 (by omega)) rfl rfl rfl rfl ⟨by omega, by omega⟩ rfl dL_act_410 ?_
  have ha := a_md_lt (x := u) hcc0
  generalize a_md u (k_cc n) = a at ha ⊢
  refine ca_istore h dL_act_413 rfl ?_
  refine ca_iload h dL_act_415 rfl ?_
  refine ca_iconst h dL_act_417 ik_3 ?_
  refine ca_ishr h dL_act_418 ?_
  refine ca_aload_nr h dL_act_419 rfl ?_
  refine gi_L_31 h (hN.st.1 _ _ _ (by show _ ∧ _; omega)) dL_act_420 ?_
  refine ca_top (y := nI (k_cc n)) hN.cells ?_
  refine oa_s h hG ms_L_27 (c_L_most hcc0 (by omega)) rfl rfl rfl rfl ⟨by omega, by omega⟩ rfl dL_act_423 ?_
  have hb := a_md_lt (x := u >>> (3 &&& 31)) hcc0
  generalize a_md (u >>> (3 &&& 31)) (k_cc n) = b at hb ⊢
  refine ca_istore h dL_act_426 rfl ?_
  refine ca_iload h dL_act_428 rfl ?_
  refine ca_iconst h dL_act_430 ik_5 ?_
  refine ca_ishr h dL_act_431 ?_
  refine ca_bipush h dL_act_432 bk_31 ?_
  refine oa_s h hG ms_L_27 (c_L_most (by decide) (by decide)) rfl rfl rfl rfl ⟨by omega, by omega⟩ rfl dL_act_434 ?_
  have hv31 := a_md_lt (x := u >>> (5 &&& 31)) (show 0 < 31 by decide)
  generalize hev : a_md (u >>> (5 &&& 31)) 31 = vv at hv31 ⊢
  have hrg : k_rg 0 30 (nI vv) := ⟨nI_pos (by omega), nI_nlt (a := 30) (by omega) (by decide)⟩
  refine ca_istore h dL_act_437 rfl ?_
  refine ca_aload_nr h dL_act_439 rfl ?_
  refine gr_L_38 h (hN.st.1 _ _ _ (by show _ ∧ _; omega)) (hN.st.2.1 _ _ _ _ _ (by show _ ∧ _; omega) rfl) dL_act_440 ?_
  show ch_W X E _ _ _ _ _ _ _ (.ref (S.1 16 24 1) :: _)
  refine ca_iload h dL_act_443 rfl ?_
  refine oa_aald h (j := a) rfl (by decide) (hN.st.1 _ _ _ (by show _ ∧ _; omega)) rfl (by omega) (by decide) (hN.st.2.1 _ _ _ _ _ (by show _ ∧ _; omega) (o_rt241 (by omega))) dL_act_445 ?_
  show ch_W X E _ _ _ _ _ _ _ (.ref (S.1 16 48 (8 + a)) :: _)
  refine ca_iload h dL_act_446 rfl ?_
  refine oa_iald h (j := b) rfl (hN.st.1 _ _ _ (by show _ ∧ _; omega)) rfl (by omega) (by decide) dL_act_448 ?_
  refine ca_top (y := (if n 2 (8 * a + b) 0 = 0 then -1 else n 2 (8 * a + b) 1)) (hN.hy (by omega) (by omega)) ?_
  refine ca_if_ge (tgt := 457) h dL_act_449 (by decide) (fun c_449 => ?_) (fun c_449 => ?_)
  ·
    have hx : ¬ n 2 (8 * a + b) 0 = 0 := fun z => c_449 (by rw [if_pos z]; decide)
    refine ca_aload_nr h dL_act_457 rfl ?_
    refine gr_L_38 h (hN.st.1 _ _ _ (by show _ ∧ _; omega)) (hN.st.2.1 _ _ _ _ _ (by show _ ∧ _; omega) rfl) dL_act_458 ?_
    show ch_W X E _ _ _ _ _ _ _ (.ref (S.1 16 24 1) :: _)
    refine ca_iload h dL_act_461 rfl ?_
    refine oa_aald h (j := a) rfl (by decide) (hN.st.1 _ _ _ (by show _ ∧ _; omega)) rfl (by omega) (by decide) (hN.st.2.1 _ _ _ _ _ (by show _ ∧ _; omega) (o_rt241 (by omega))) dL_act_463 ?_
    show ch_W X E _ _ _ _ _ _ _ (.ref (S.1 16 48 (8 + a)) :: _)
    refine ca_iload h dL_act_464 rfl ?_
    refine oa_iald h (j := b) rfl (hN.st.1 _ _ _ (by show _ ∧ _; omega)) rfl (by omega) (by decide) dL_act_466 ?_
    refine ca_top (y := (if n 2 (8 * a + b) 0 = 0 then -1 else n 2 (8 * a + b) 1)) (hN.hy (by omega) (by omega)) ?_
    refine ca_istore h dL_act_467 rfl ?_
    refine ca_iload h dL_act_469 rfl ?_
    refine ca_if_lt (tgt := 486) h dL_act_471 (by decide) (fun c_471 => ?_) (fun c_471 => ?_)
    · exact absurd c_471 c_449
    ·
      refine ca_aload_nr h dL_act_474 rfl ?_
      refine gr_L_38 h (hN.st.1 _ _ _ (by show _ ∧ _; omega)) (hN.st.2.1 _ _ _ _ _ (by show _ ∧ _; omega) rfl) dL_act_475 ?_
      show ch_W X E _ _ _ _ _ _ _ (.ref (S.1 16 24 1) :: _)
      refine ca_iload h dL_act_478 rfl ?_
      refine oa_aald h (j := a) rfl (by decide) (hN.st.1 _ _ _ (by show _ ∧ _; omega)) rfl (by omega) (by decide) (hN.st.2.1 _ _ _ _ _ (by show _ ∧ _; omega) (o_rt241 (by omega))) dL_act_480 ?_
      show ch_W X E _ _ _ _ _ _ _ (.ref (S.1 16 48 (8 + a)) :: _)
      refine ca_iload h dL_act_481 rfl ?_
      refine ca_iload h dL_act_483 rfl ?_
      refine oa_iast h (j := b) rfl (hN.st.1 _ _ _ (by show _ ∧ _; omega)) rfl (by omega) (by decide) dL_act_485 ?_
      have hf : o_fr S μ S (ch_st μ 16 48 (8 + a) b (nI vv)) := o_fr_st (o_fr_0 (S := S) (μ := μ))
      have e1 := (hf.1 0 (by decide) (by decide) (by decide) (by decide) (by decide)).2.2.2.trans e0
      have hn1 := (congrFun (congrFun (congrFun (hf.1 15 (by decide) (by decide) (by decide) (by decide) (by decide)).2.2.2 14) 0) 1).trans hnx
      refine ca_aload_nr h dL_act_486 rfl ?_
      refine ca_iload h dL_act_487 rfl ?_
      refine ca_iload h dL_act_489 rfl ?_
      refine ca_iload h dL_act_491 rfl ?_
      refine oa_v h hG ml_L_241 (c_X11_setHysteresis hs (by rw [e1]; exact hc8) (by rw [e1]; exact ha) (by rw [e1]; exact hb) hrg (by rw [e1]; exact hx) hj hn1) (ci := 11) rfl rfl rfl (hs.1 _ _ _ ⟨rfl, rfl⟩) rfl rfl rfl rfl ⟨by omega, by omega⟩ rfl dL_act_493 ?_
      rw [e1]
      refine ca_iload h dL_act_496 rfl ?_
      refine ca_icmp_eq (tgt := 505) h dL_act_498 (by decide) (fun c_498 => ?_) (fun c_498 => ?_)
      ·
        refine ca_iload h dL_act_505 rfl ?_
        refine ca_if_ge (tgt := 514) h dL_act_507 (by decide) (fun c_507 => ?_) (fun c_507 => ?_)
        ·
          refine ca_iconst h dL_act_514 ik_1 ?_
          refine ca_widen (k := 11) (n := 29) (by omega) (by omega) ?_
          refine ca_ireturn h hR rfl dL_act_515 ?_
          obtain ⟨w9, hN9⟩ := o_NW_hys hN (show a < 8 by omega) (show b < 8 by omega) hx (v := nI vv)
          exact o_PA_1 (o_fa_fr hf) hN9 (s_J_mono (s_J_hys hJ (by omega) hrg.1 hrg.2) (Nat.le_succ B)) (k_cc_0 (nw_k (by decide))) (by rw [nw_k (by decide)]) (by rw [hf.2.1.1]) hj
        · exact absurd c_507 c_449
      · exact absurd (if_neg hx).symm c_498
  ·
    have hx : n 2 (8 * a + b) 0 = 0 := Classical.byContradiction (fun z => hJ.2.1.2 (8 * a + b) (by omega) (by rw [if_neg z] at c_449; exact c_449))
    refine ca_bipush h dL_act_452 bk_m2 ?_
    refine ca_goto (tgt := 467) h dL_act_454 (by decide) ?_
    refine ca_istore h dL_act_467 rfl ?_
    refine ca_iload h dL_act_469 rfl ?_
    refine ca_if_lt (tgt := 486) h dL_act_471 (by decide) (fun c_471 => ?_) (fun c_471 => ?_)
    ·
      refine ca_aload_nr h dL_act_486 rfl ?_
      refine ca_iload h dL_act_487 rfl ?_
      refine ca_iload h dL_act_489 rfl ?_
      refine ca_iload h dL_act_491 rfl ?_
      refine oa_v h hG ml_L_241 (c_X11_setHysteresisM hs (by rw [e0]; exact hc8) (by rw [e0]; exact ha) (by rw [e0]; exact hb) hrg (by rw [e0]; exact hx)) (ci := 11) rfl rfl rfl (hs.1 _ _ _ ⟨rfl, rfl⟩) rfl rfl rfl rfl ⟨by omega, by omega⟩ rfl dL_act_493 ?_
      refine ca_iload h dL_act_496 rfl ?_
      refine ca_icmp_eq (tgt := 505) h dL_act_498 (by decide) (fun c_498 => ?_) (fun c_498 => ?_)
      ·
        refine ca_iload h dL_act_505 rfl ?_
        refine ca_if_ge (tgt := 514) h dL_act_507 (by decide) (fun c_507 => ?_) (fun c_507 => ?_)
        · exact absurd (by decide) c_507
        ·
          refine ca_iconst h dL_act_510 ik_0 ?_
          refine ca_goto (tgt := 515) h dL_act_511 (by decide) ?_
          refine ca_widen (k := 11) (n := 29) (by omega) (by omega) ?_
          refine ca_ireturn h hR rfl dL_act_515 ?_
          exact o_PA_0 o_fa_0 hN hJ rfl
      · exact absurd rfl c_498
    · exact absurd (by decide) c_471
