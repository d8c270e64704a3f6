set_option maxHeartbeats 2000000 in
theorem c_L_isSound {l : Launch} {E : ch_E} {S : ch_S} {μ : ch_M} {n : ch_N} (hs : ch_Std E S) (e0 : μ 0 = n) {w : Nat → Int32} (hN : o_NW n w S μ) (hKG : k_G n) (hA : o_age n) (hD : o_Snd n) : ch_C E l yL_isSound cL_isSound 14 (some FieldType.boolean) 6 0 0 S μ [.ref (S.1 15 11 0), .ref (S.1 16 22 0)] (fun v' S' μ' => v' = some (.int 1) ∧ S' = S ∧ o_f15 μ μ') := by
  refine ch_enter rfl rfl ?_
  intro X hl0 h hG hR hnm
  have h : ch_H X E RL cL_isSound 14 := h
  have hm12 := hN.m12
  have hc8 := hN.c8
  show ch_W X E 14 S μ 0 0 0 [(0, .ref (S.1 15 11 0)), (1, .ref (S.1 16 22 0))] []
  refine ca_aload_nr h dL_isSound_0 rfl ?_
  refine oa_v h hG ml_L_102 (n_X11_mobileCount hs e0 ) (ci := 11) rfl rfl rfl (hs.1 _ _ _ ⟨rfl, rfl⟩) rfl rfl rfl rfl ⟨Nat.le_refl _, Nat.le_refl _⟩ rfl dL_isSound_1 ?_
  refine ca_top (y := nI (k_mc n)) (a_mc hN.rn) ?_
  refine ca_istore_n h dL_isSound_4 rfl ?_
  refine ca_iconst h dL_isSound_5 ik_0 ?_
  refine ca_istore_n h dL_isSound_6 rfl ?_
  refine ca_iconst h dL_isSound_7 ik_0 ?_
  refine ca_istore h dL_isSound_8 rfl ?_
  refine ca_iconst h dL_isSound_10 ik_0 ?_
  refine ca_istore h dL_isSound_11 rfl ?_
  have loop_13 : ∀ (jj c : Nat), c + jj = k_cc n → ∀ (x3 : Int32) (e3 : x3 = kf (s_rv n) c 0) (x4 : Int32) (e4 : x4 = kf (s_sa n) c 0), ch_W X E 14 S μ 0 0 13 [(0, .ref (S.1 15 11 0)), (1, .ref (S.1 16 22 0)), (2, .int (nI (k_mc n))), (3, .int x3), (4, .int x4), (5, .int (nI c))] [] := by
    intro jj
    induction jj with
    | zero =>
      intro c hn x3 e3 x4 e4
      have hn : c = k_cc n := by omega
      subst e3 e4
      refine ca_iload h dL_isSound_13 rfl ?_
      refine ca_aload_nr h dL_isSound_15 rfl ?_
      refine gi_L_31 h (hN.st.1 _ _ _ (by show _ ∧ _; omega)) dL_isSound_16 ?_
      refine ca_top (y := nI (k_cc n)) hN.cells ?_
      refine ca_icmp_ge (tgt := 242) h dL_isSound_19 (by decide) (fun c_19 => ?_) (fun c_19 => ?_)
      ·
        refine ca_iconst h dL_isSound_242 ik_0 ?_
        refine ca_istore h dL_isSound_243 rfl ?_
        rw [hn]
        have loop_245 : ∀ (jj m : Nat), m + jj = k_mc n → ∀ (x3 : Int32) (e3 : x3 = kf (s_rm n) m (nI (s_R n (k_cc n)))) (x4 : Int32) (e4 : x4 = n 7 0 0) (μ2 : ch_M) (hN : o_NW n w S μ2) (e0 : μ2 0 = n) (hf2 : o_f15 μ μ2), ch_W X E 14 S μ2 0 0 245 [(0, .ref (S.1 15 11 0)), (1, .ref (S.1 16 22 0)), (2, .int (nI (k_mc n))), (3, .int x3), (4, .int x4), (5, .int (nI m))] [] := by
          intro jj
          induction jj with
          | zero =>
            intro m hn x3 e3 x4 e4 μ2 hN e0 hf2
            have hn : m = k_mc n := by omega
            subst e3 e4
            refine ca_iload h dL_isSound_245 rfl ?_
            refine ca_iload_n h dL_isSound_247 rfl ?_
            refine ca_icmp_ge (tgt := 621) h dL_isSound_248 (by decide) (fun c_248 => ?_) (fun c_248 => ?_)
            ·
              rw [hn]
              rw [s_req hN.rn]
              refine ca_iload_n h dL_isSound_621 rfl ?_
              refine ca_if_ne (tgt := 660) h dL_isSound_622 (by decide) (fun c_622 => ?_) (fun c_622 => ?_)
              · exact absurd rfl c_622
              ·
                refine ca_iload h dL_isSound_625 rfl ?_
                refine ca_aload_nr h dL_isSound_627 rfl ?_
                refine ca_iconst h dL_isSound_628 ik_0 ?_
                refine oa_v h hG ml_L_113 (n_X11_total hs e0 ) (ci := 11) rfl rfl rfl (hs.1 _ _ _ ⟨rfl, rfl⟩) rfl rfl rfl rfl ⟨Nat.le_refl _, Nat.le_refl _⟩ rfl dL_isSound_629 ?_
                refine ca_icmp_ne (tgt := 660) h dL_isSound_632 (by decide) (fun c_632 => ?_) (fun c_632 => ?_)
                · exact absurd rfl c_632
                ·
                  refine ca_aload_nr h dL_isSound_635 rfl ?_
                  refine ca_iconst h dL_isSound_636 ik_1 ?_
                  refine oa_v h hG ml_L_113 (n_X11_total hs e0 ) (ci := 11) rfl rfl rfl (hs.1 _ _ _ ⟨rfl, rfl⟩) rfl rfl rfl rfl ⟨Nat.le_refl _, Nat.le_refl _⟩ rfl dL_isSound_637 ?_
                  refine ca_aload_nr h dL_isSound_640 rfl ?_
                  refine ca_iconst h dL_isSound_641 ik_0 ?_
                  refine oa_v h hG ml_L_113 (n_X11_total hs e0 ) (ci := 11) rfl rfl rfl (hs.1 _ _ _ ⟨rfl, rfl⟩) rfl rfl rfl rfl ⟨Nat.le_refl _, Nat.le_refl _⟩ rfl dL_isSound_642 ?_
                  refine ca_icmp_gt (tgt := 660) h dL_isSound_645 (by decide) (fun c_645 => ?_) (fun c_645 => ?_)
                  · exact absurd c_645 hD.2.2.2.2.1
                  ·
                    refine ca_aload_nr h dL_isSound_648 rfl ?_
                    refine ca_iconst h dL_isSound_649 ik_5 ?_
                    refine oa_v h hG ml_L_113 (n_X11_total hs e0 ) (ci := 11) rfl rfl rfl (hs.1 _ _ _ ⟨rfl, rfl⟩) rfl rfl rfl rfl ⟨Nat.le_refl _, Nat.le_refl _⟩ rfl dL_isSound_650 ?_
                    refine ca_if_lt (tgt := 660) h dL_isSound_653 (by decide) (fun c_653 => ?_) (fun c_653 => ?_)
                    · exact absurd c_653 hD.2.2.2.2.2.1
                    ·
                      refine ca_iconst h dL_isSound_656 ik_1 ?_
                      refine ca_goto (tgt := 661) h dL_isSound_657 (by decide) ?_
                      refine ca_ireturn h hR rfl dL_isSound_661 ?_
                      exact ⟨rfl, rfl, hf2⟩
            · exact absurd c_248 (by rw [hn]; exact Int32.lt_irrefl)
          | succ jj ih_245 =>
            intro m hn x3 e3 x4 e4 μ2 hN e0 hf2
            have hn1 : m < k_mc n := by omega
            subst e3 e4
            have hm := hn1
            refine ca_iload h dL_isSound_245 rfl ?_
            refine ca_iload_n h dL_isSound_247 rfl ?_
            refine ca_icmp_ge (tgt := 621) h dL_isSound_248 (by decide) (fun c_248 => ?_) (fun c_248 => ?_)
            · exact absurd (nI_lt hn1 (by omega)) c_248
            ·
              have hM := hN.rn.2.2.2.2.1 m hm
              have hm12' : m < 12 := by omega
              have hsv : (n 3 m 4 = 1 → ¬ n 3 m 5 < 0) ∧ (¬ n 3 m 4 = 1 → n 3 m 5 < 0) := ⟨fun z => (by obtain ⟨s, hs9, e⟩ := hM.2.2.2.2.2.1 z; rw [e]; exact nI_pos (by omega)), fun z => (by rw [(hM.2.2.2.2.2.2.1 z).1]; decide)⟩
              have h8nn : ¬ n 3 m 8 = -1 → ¬ n 3 m 8 < 0 := fun z => (by obtain ⟨c, hc9, e⟩ := hM.2.2.2.2.2.2.2.2.2.1.resolve_left z; rw [e]; exact nI_pos (by omega))
              refine ca_aload_nr h dL_isSound_251 rfl ?_
              refine ca_iload h dL_isSound_252 rfl ?_
              refine oa_v h hG ml_L_170 (n_X11_state hs e0 hm12 hm) (ci := 11) rfl rfl rfl (hs.1 _ _ _ ⟨rfl, rfl⟩) rfl rfl rfl rfl ⟨Nat.le_refl _, Nat.le_refl _⟩ rfl dL_isSound_254 ?_
              refine ca_istore h dL_isSound_257 rfl ?_
              have K_271 : ∀ (x3 : Int32) (e3 : x3 = kf (s_rm n) (m + 1) (nI (s_R n (k_cc n)))), ch_W X E 14 S μ2 0 0 271 [(0, .ref (S.1 15 11 0)), (1, .ref (S.1 16 22 0)), (2, .int (nI (k_mc n))), (3, .int x3), (4, .int (n 7 0 0)), (5, .int (nI m)), (6, .int (n 3 m 4))] [] := by
                intro x3 e3
                have K_299 : ∀ (_ : True), ch_W X E 14 S μ2 0 0 299 [(0, .ref (S.1 15 11 0)), (1, .ref (S.1 16 22 0)), (2, .int (nI (k_mc n))), (3, .int x3), (4, .int (n 7 0 0)), (5, .int (nI m)), (6, .int (n 3 m 4))] [] := by
                  intro _
                  have K_326 : ∀ (_ : True), ch_W X E 14 S μ2 0 0 326 [(0, .ref (S.1 15 11 0)), (1, .ref (S.1 16 22 0)), (2, .int (nI (k_mc n))), (3, .int x3), (4, .int (n 7 0 0)), (5, .int (nI m)), (6, .int (n 3 m 4))] [] := by
                    intro _
                    have K_358 : ∀ (_ : True), ch_W X E 14 S μ2 0 0 358 [(0, .ref (S.1 15 11 0)), (1, .ref (S.1 16 22 0)), (2, .int (nI (k_mc n))), (3, .int x3), (4, .int (n 7 0 0)), (5, .int (nI m)), (6, .int (n 3 m 4))] [] := by
                      intro _
                      obtain ⟨t, C, hC⟩ := s_cand hN.rn hm
                      refine ca_iconst h dL_isSound_358 ik_m1 ?_
                      refine ca_istore h dL_isSound_359 rfl ?_
                      refine ca_iconst h dL_isSound_361 ik_0 ?_
                      refine ca_istore h dL_isSound_362 rfl ?_
                      have ht8 := hC.1
                      have loop_364 : ∀ (jj k : Nat), k + jj = t → ∀ (x7 : Int32) (e7 : x7 = (if k = 0 then -1 else nI (C (k - 1)))) (μ2 : ch_M) (hN : o_NW n w S μ2) (e0 : μ2 0 = n) (hf2 : o_f15 μ μ2), ch_W X E 14 S μ2 0 0 364 [(0, .ref (S.1 15 11 0)), (1, .ref (S.1 16 22 0)), (2, .int (nI (k_mc n))), (3, .int x3), (4, .int (n 7 0 0)), (5, .int (nI m)), (6, .int (n 3 m 4)), (7, .int x7), (8, .int (nI k))] [] := by
                        intro jj
                        induction jj with
                        | zero =>
                          intro k hn x7 e7 μ2 hN e0 hf2
                          have hn : k = t := by omega
                          subst e7
                          refine ca_aload_nr h dL_isSound_364 rfl ?_
                          refine ca_iload h dL_isSound_365 rfl ?_
                          refine ca_iload h dL_isSound_367 rfl ?_
                          refine oa_v h hG ml_L_213 (n_X11_candidate hs e0 hN.wf hm (nI_pos (by omega))) (ci := 11) rfl rfl rfl (hs.1 _ _ _ ⟨rfl, rfl⟩) rfl rfl rfl rfl ⟨Nat.le_refl _, Nat.le_refl _⟩ rfl dL_isSound_369 ?_
                          refine ca_top (y := if k < t then nI (C k) else -1) (by rw [k_mob hm12']; exact hC.2.1 _ k (by omega)) ?_
                          first
                            | rw [if_pos hn1]
                            | rw [if_neg (show ¬ k < t by omega)]
                          have hN := o_NW_up15 (q := k_rank n (μ2 15) (k_ix 12 12 (nI m))) hN
                          have e0 : up μ2 15 (k_rank n (μ2 15) (k_ix 12 12 (nI m))) 0 = n := (up_n (by decide)).trans e0
                          have hf2 := o_f15_up (n := n) (i := k_ix 12 12 (nI m)) hf2
                          generalize up μ2 15 (k_rank n (μ2 15) (k_ix 12 12 (nI m))) = μ2 at hN e0 hf2 ⊢
                          refine ca_if_lt (tgt := 615) h dL_isSound_372 (by decide) (fun c_372 => ?_) (fun c_372 => ?_)
                          ·
                            refine ca_iinc h dL_isSound_615 rfl ik_1 rfl ?_
                            rw [show nI m + 1 = nI (m + 1) from nI_1 _]
                            refine ca_goto (tgt := 245) h dL_isSound_618 (by decide) ?_
                            refine ca_pick [1, 2, 3, 4, 5, 0] rfl ?_
                            exact ih_245 (m + 1) (by omega) _ e3 _ rfl _ hN e0 hf2
                          · exact absurd (by decide) c_372
                        | succ jj ih_364 =>
                          intro k hn x7 e7 μ2 hN e0 hf2
                          have hn1 : k < t := by omega
                          subst e7
                          obtain ⟨ht4, hav⟩ := hC.2.2.2.2 (by omega)
                          obtain ⟨s, hsc, h5⟩ := r_sv hN.rn hm ht4
                          obtain ⟨hCk, hgk⟩ := hC.2.2.1 k hn1
                          obtain ⟨A, B, H, G, eA, eB, eH, eG, hA9, hB9, hG9, hsum⟩ := s_its hN.rn hKG hD.2.2.2.2.2.2 hm ht4 hsc hCk h5 hav hgk
                          have hg := s_gp (by omega) (by omega) h5 hgk
                          refine ca_aload_nr h dL_isSound_364 rfl ?_
                          refine ca_iload h dL_isSound_365 rfl ?_
                          refine ca_iload h dL_isSound_367 rfl ?_
                          refine oa_v h hG ml_L_213 (n_X11_candidate hs e0 hN.wf hm (nI_pos (by omega))) (ci := 11) rfl rfl rfl (hs.1 _ _ _ ⟨rfl, rfl⟩) rfl rfl rfl rfl ⟨Nat.le_refl _, Nat.le_refl _⟩ rfl dL_isSound_369 ?_
                          refine ca_top (y := if k < t then nI (C k) else -1) (by rw [k_mob hm12']; exact hC.2.1 _ k (by omega)) ?_
                          first
                            | rw [if_pos hn1]
                            | rw [if_neg (show ¬ k < t by omega)]
                          have hN := o_NW_up15 (q := k_rank n (μ2 15) (k_ix 12 12 (nI m))) hN
                          have e0 : up μ2 15 (k_rank n (μ2 15) (k_ix 12 12 (nI m))) 0 = n := (up_n (by decide)).trans e0
                          have hf2 := o_f15_up (n := n) (i := k_ix 12 12 (nI m)) hf2
                          generalize up μ2 15 (k_rank n (μ2 15) (k_ix 12 12 (nI m))) = μ2 at hN e0 hf2 ⊢
                          refine ca_if_lt (tgt := 615) h dL_isSound_372 (by decide) (fun c_372 => ?_) (fun c_372 => ?_)
                          · exact absurd c_372 (nI_pos (by omega))
                          ·
                            refine ca_aload_nr h dL_isSound_375 rfl ?_
                            refine ca_iload h dL_isSound_376 rfl ?_
                            refine ca_iload h dL_isSound_378 rfl ?_
                            refine oa_v h hG ml_L_213 (n_X11_candidate hs e0 hN.wf hm (nI_pos (by omega))) (ci := 11) rfl rfl rfl (hs.1 _ _ _ ⟨rfl, rfl⟩) rfl rfl rfl rfl ⟨Nat.le_refl _, Nat.le_refl _⟩ rfl dL_isSound_380 ?_
                            refine ca_top (y := if k < t then nI (C k) else -1) (by rw [k_mob hm12']; exact hC.2.1 _ k (by omega)) ?_
                            rw [if_pos hn1]
                            have hN := o_NW_up15 (q := k_rank n (μ2 15) (k_ix 12 12 (nI m))) hN
                            have e0 : up μ2 15 (k_rank n (μ2 15) (k_ix 12 12 (nI m))) 0 = n := (up_n (by decide)).trans e0
                            have hf2 := o_f15_up (n := n) (i := k_ix 12 12 (nI m)) hf2
                            generalize up μ2 15 (k_rank n (μ2 15) (k_ix 12 12 (nI m))) = μ2 at hN e0 hf2 ⊢
                            refine ca_istore h dL_isSound_383 rfl ?_
                            refine ca_aload_nr h dL_isSound_385 rfl ?_
                            refine ca_iload h dL_isSound_386 rfl ?_
                            refine ca_iload h dL_isSound_388 rfl ?_
                            refine oa_v h hG ml_L_198 (n_X11_average hs e0 hN.wf hm hCk) (ci := 11) rfl rfl rfl (hs.1 _ _ _ ⟨rfl, rfl⟩) rfl rfl rfl rfl ⟨Nat.le_refl _, Nat.le_refl _⟩ rfl dL_isSound_390 ?_
                            refine ca_istore h dL_isSound_393 rfl ?_
                            refine ca_iload h dL_isSound_395 rfl ?_
                            refine ca_iconst h dL_isSound_397 ik_1 ?_
                            refine ca_icmp_ne (tgt := 463) h dL_isSound_398 (by decide) (fun c_398 => ?_) (fun c_398 => ?_)
                            · exact absurd ht4 c_398
                            ·
                              refine ca_aload_nr h dL_isSound_401 rfl ?_
                              refine ca_aload_nr h dL_isSound_402 rfl ?_
                              refine ca_iload h dL_isSound_403 rfl ?_
                              refine oa_v h hG ml_L_175 (n_X11_servingCell hs e0 hm12 hm) (ci := 11) rfl rfl rfl (hs.1 _ _ _ ⟨rfl, rfl⟩) rfl rfl rfl rfl ⟨Nat.le_refl _, Nat.le_refl _⟩ rfl dL_isSound_405 ?_
                              rw [h5]
                              refine ca_iload h dL_isSound_408 rfl ?_
                              refine oa_v h hG ml_L_142 (n_X11_hysteresis hs e0 hc8 hsc hCk) (ci := 11) rfl rfl rfl (hs.1 _ _ _ ⟨rfl, rfl⟩) rfl rfl rfl rfl ⟨Nat.le_refl _, Nat.le_refl _⟩ rfl dL_isSound_410 ?_
                              refine ca_if_lt (tgt := 463) h dL_isSound_413 (by decide) (fun c_413 => ?_) (fun c_413 => ?_)
                              · exact absurd c_413 (by rw [if_neg hg.1]; exact hKG.2 (8 * s + C k) (by omega))
                              ·
                                refine ca_iload h dL_isSound_416 rfl ?_
                                refine ca_aload_nr h dL_isSound_418 rfl ?_
                                refine ca_iload h dL_isSound_419 rfl ?_
                                refine ca_aload_nr h dL_isSound_421 rfl ?_
                                refine ca_iload h dL_isSound_422 rfl ?_
                                refine oa_v h hG ml_L_175 (n_X11_servingCell hs e0 hm12 hm) (ci := 11) rfl rfl rfl (hs.1 _ _ _ ⟨rfl, rfl⟩) rfl rfl rfl rfl ⟨Nat.le_refl _, Nat.le_refl _⟩ rfl dL_isSound_424 ?_
                                rw [h5]
                                refine oa_v h hG ml_L_198 (n_X11_average hs e0 hN.wf hm hsc) (ci := 11) rfl rfl rfl (hs.1 _ _ _ ⟨rfl, rfl⟩) rfl rfl rfl rfl ⟨Nat.le_refl _, Nat.le_refl _⟩ rfl dL_isSound_427 ?_
                                refine ca_icmp_le (tgt := 463) h dL_isSound_430 (by decide) (fun c_430 => ?_) (fun c_430 => ?_)
                                · exact absurd (by rw [eA, eB]; exact nI_lt (by omega) (by omega)) c_430
                                ·
                                  refine ca_iload h dL_isSound_433 rfl ?_
                                  refine ca_aload_nr h dL_isSound_435 rfl ?_
                                  refine gr_L_35 h (hN.st.1 _ _ _ (by show _ ∧ _; omega)) (hN.st.2.1 _ _ _ _ _ (by show _ ∧ _; omega) rfl) dL_isSound_436 ?_
                                  show ch_W X E _ _ _ _ _ _ _ (.ref (S.1 16 24 0) :: _)
                                  refine ca_iload h dL_isSound_439 rfl ?_
                                  refine oa_aald h (j := (C k)) rfl (by decide) (hN.st.1 _ _ _ (by show _ ∧ _; omega)) rfl (by omega) (by decide) (hN.st.2.1 _ _ _ _ _ (by show _ ∧ _; omega) (o_rt240 (by omega))) dL_isSound_441 ?_
                                  show ch_W X E _ _ _ _ _ _ _ (.ref (S.1 16 48 (C k)) :: _)
                                  refine ca_bipush h dL_isSound_442 bk_6 ?_
                                  refine oa_iald h (j := 6) rfl (hN.st.1 _ _ _ (by show _ ∧ _; omega)) rfl (by omega) (by decide) dL_isSound_444 ?_
                                  refine ca_top (y := n 1 (C k) 6) (hN.cf (by omega) (by decide)) ?_
                                  refine ca_icmp_lt (tgt := 463) h dL_isSound_445 (by decide) (fun c_445 => ?_) (fun c_445 => ?_)
                                  · exact absurd c_445 hg.2.2.2.1
                                  ·
                                    refine ca_aload_nr h dL_isSound_448 rfl ?_
                                    refine ca_iload h dL_isSound_449 rfl ?_
                                    refine ca_iload h dL_isSound_451 rfl ?_
                                    refine oa_v h hG ml_L_195 (n_X11_reportCount hs e0 hN.wf hm hCk) (ci := 11) rfl rfl rfl (hs.1 _ _ _ ⟨rfl, rfl⟩) rfl rfl rfl rfl ⟨Nat.le_refl _, Nat.le_refl _⟩ rfl dL_isSound_453 ?_
                                    refine ca_aload_nr h dL_isSound_456 rfl ?_
                                    refine gi_L_44 h (hN.st.1 _ _ _ (by show _ ∧ _; omega)) dL_isSound_457 ?_
                                    refine ca_top (y := n 0 0 5) (hN.hd (by decide)) ?_
                                    refine ca_icmp_ge (tgt := 465) h dL_isSound_460 (by decide) (fun c_460 => ?_) (fun c_460 => ?_)
                                    ·
                                      refine ca_aload_nr h dL_isSound_465 rfl ?_
                                      refine ca_iload h dL_isSound_466 rfl ?_
                                      refine ca_aload_nr h dL_isSound_468 rfl ?_
                                      refine ca_iload h dL_isSound_469 rfl ?_
                                      refine oa_v h hG ml_L_175 (n_X11_servingCell hs e0 hm12 hm) (ci := 11) rfl rfl rfl (hs.1 _ _ _ ⟨rfl, rfl⟩) rfl rfl rfl rfl ⟨Nat.le_refl _, Nat.le_refl _⟩ rfl dL_isSound_471 ?_
                                      rw [h5]
                                      refine oa_v h hG ml_L_198 (n_X11_average hs e0 hN.wf hm hsc) (ci := 11) rfl rfl rfl (hs.1 _ _ _ ⟨rfl, rfl⟩) rfl rfl rfl rfl ⟨Nat.le_refl _, Nat.le_refl _⟩ rfl dL_isSound_474 ?_
                                      refine ca_aload_nr h dL_isSound_477 rfl ?_
                                      refine gr_L_35 h (hN.st.1 _ _ _ (by show _ ∧ _; omega)) (hN.st.2.1 _ _ _ _ _ (by show _ ∧ _; omega) rfl) dL_isSound_478 ?_
                                      show ch_W X E _ _ _ _ _ _ _ (.ref (S.1 16 24 0) :: _)
                                      refine ca_aload_nr h dL_isSound_481 rfl ?_
                                      refine ca_iload h dL_isSound_482 rfl ?_
                                      refine oa_v h hG ml_L_175 (n_X11_servingCell hs e0 hm12 hm) (ci := 11) rfl rfl rfl (hs.1 _ _ _ ⟨rfl, rfl⟩) rfl rfl rfl rfl ⟨Nat.le_refl _, Nat.le_refl _⟩ rfl dL_isSound_484 ?_
                                      rw [h5]
                                      refine oa_aald h (j := s) rfl (by decide) (hN.st.1 _ _ _ (by show _ ∧ _; omega)) rfl (by omega) (by decide) (hN.st.2.1 _ _ _ _ _ (by show _ ∧ _; omega) (o_rt240 (by omega))) dL_isSound_487 ?_
                                      show ch_W X E _ _ _ _ _ _ _ (.ref (S.1 16 48 s) :: _)
                                      refine ca_bipush h dL_isSound_488 bk_7 ?_
                                      refine oa_iald h (j := 7) rfl (hN.st.1 _ _ _ (by show _ ∧ _; omega)) rfl (by omega) (by decide) dL_isSound_490 ?_
                                      refine ca_top (y := n 1 s 7) (hN.cf (by omega) (by decide)) ?_
                                      refine ca_icmp_ge (tgt := 498) h dL_isSound_491 (by decide) (fun c_491 => ?_) (fun c_491 => ?_)
                                      ·
                                        have hem0 : k_em n m = 0 := by unfold k_em; rw [h5, k_cel (by omega), decide_eq_false (Int32.not_lt.mpr (Int32.not_lt.mp c_491))]; rfl
                                        refine ca_iconst h dL_isSound_498 ik_0 ?_
                                        refine ca_istore h dL_isSound_499 rfl ?_
                                        refine ca_iload h dL_isSound_501 rfl ?_
                                        refine ca_if_ne (tgt := 519) h dL_isSound_503 (by decide) (fun c_503 => ?_) (fun c_503 => ?_)
                                        · exact absurd rfl c_503
                                        ·
                                          refine ca_aload_nr h dL_isSound_506 rfl ?_
                                          refine ca_iload h dL_isSound_507 rfl ?_
                                          refine ca_iload h dL_isSound_509 rfl ?_
                                          refine oa_v h hG ml_L_203 (n_X11_isBarred hs e0 hN.wf hm hCk) (ci := 11) rfl rfl rfl (hs.1 _ _ _ ⟨rfl, rfl⟩) rfl rfl rfl rfl ⟨Nat.le_refl _, Nat.le_refl _⟩ rfl dL_isSound_511 ?_
                                          refine ca_if_eq (tgt := 519) h dL_isSound_514 (by decide) (fun c_514 => ?_) (fun c_514 => ?_)
                                          ·
                                            refine ca_iload h dL_isSound_519 rfl ?_
                                            refine ca_iload h dL_isSound_521 rfl ?_
                                            refine ca_if_eq (tgt := 530) h dL_isSound_523 (by decide) (fun c_523 => ?_) (fun c_523 => ?_)
                                            ·
                                              refine ca_aload_nr h dL_isSound_530 rfl ?_
                                              refine ca_aload_nr h dL_isSound_531 rfl ?_
                                              refine ca_iload h dL_isSound_532 rfl ?_
                                              refine oa_v h hG ml_L_175 (n_X11_servingCell hs e0 hm12 hm) (ci := 11) rfl rfl rfl (hs.1 _ _ _ ⟨rfl, rfl⟩) rfl rfl rfl rfl ⟨Nat.le_refl _, Nat.le_refl _⟩ rfl dL_isSound_534 ?_
                                              rw [h5]
                                              refine ca_iload h dL_isSound_537 rfl ?_
                                              refine oa_v h hG ml_L_142 (n_X11_hysteresis hs e0 hc8 hsc hCk) (ci := 11) rfl rfl rfl (hs.1 _ _ _ ⟨rfl, rfl⟩) rfl rfl rfl rfl ⟨Nat.le_refl _, Nat.le_refl _⟩ rfl dL_isSound_539 ?_
                                              refine ca_isub h dL_isSound_542 ?_
                                              refine ca_istore h dL_isSound_543 rfl ?_
                                              refine ca_iload h dL_isSound_545 rfl ?_
                                              refine ca_if_lt (tgt := 605) h dL_isSound_547 (by decide) (fun c_547 => ?_) (fun c_547 => ?_)
                                              ·
                                                refine ca_iload h dL_isSound_605 rfl ?_
                                                refine ca_istore h dL_isSound_607 rfl ?_
                                                refine ca_iinc h dL_isSound_609 rfl ik_1 rfl ?_
                                                rw [show nI k + 1 = nI (k + 1) from nI_1 _]
                                                refine ca_goto (tgt := 364) h dL_isSound_612 (by decide) ?_
                                                refine ca_pick [6, 7, 8, 9, 10, 11, 12, 1, 0] rfl ?_
                                                exact ih_364 (k + 1) (by omega) _ (by rw [if_neg (by omega)]; rfl) _ hN e0 hf2
                                              ·
                                                have hk1 : ¬ k = 0 := fun z => by rw [if_pos z] at c_547; exact absurd (by decide) c_547
                                                rw [if_neg hk1]
                                                obtain ⟨hCp, hgp⟩ := hC.2.2.1 (k - 1) (by omega)
                                                obtain ⟨A2, B2, H2, G2, eA2, eB2, eH2, eG2, hA2, hB2, hG2, hs2⟩ := s_its hN.rn hKG hD.2.2.2.2.2.2 hm ht4 hsc hCp h5 hav hgp
                                                have hg2 := s_gp (by omega) (by omega) h5 hgp
                                                have hAA : A2 = A := (nI_eq (by omega) (by omega)).mp (eA2.symm.trans eA)
                                                have hbt := hC.2.2.2.1 (k - 1) k (by omega) hn1
                                                have ei1 : k_avg n m (nI (C k)) - (if n 2 (8 * s + C k) 0 = 0 then -1 else n 2 (8 * s + C k) 1) = nI (G + A) := by rw [if_neg hg.1, eB]; rw [if_pos hem0] at eH; rw [eH, pk_sub (by omega)]; congr 1; omega
                                                have ei2 : k_avg n m (nI (C (k - 1))) - (if n 2 (8 * s + C (k - 1)) 0 = 0 then -1 else n 2 (8 * s + C (k - 1)) 1) = nI (G2 + A) := by rw [if_neg hg2.1, eB2]; rw [if_pos hem0] at eH2; rw [eH2, pk_sub (by omega)]; congr 1; omega
                                                refine ca_aload_nr h dL_isSound_550 rfl ?_
                                                refine ca_iload h dL_isSound_551 rfl ?_
                                                refine ca_iload h dL_isSound_553 rfl ?_
                                                refine oa_v h hG ml_L_198 (n_X11_average hs e0 hN.wf hm hCp) (ci := 11) rfl rfl rfl (hs.1 _ _ _ ⟨rfl, rfl⟩) rfl rfl rfl rfl ⟨Nat.le_refl _, Nat.le_refl _⟩ rfl dL_isSound_555 ?_
                                                refine ca_iload h dL_isSound_558 rfl ?_
                                                refine ca_if_eq (tgt := 567) h dL_isSound_560 (by decide) (fun c_560 => ?_) (fun c_560 => ?_)
                                                ·
                                                  refine ca_aload_nr h dL_isSound_567 rfl ?_
                                                  refine ca_aload_nr h dL_isSound_568 rfl ?_
                                                  refine ca_iload h dL_isSound_569 rfl ?_
                                                  refine oa_v h hG ml_L_175 (n_X11_servingCell hs e0 hm12 hm) (ci := 11) rfl rfl rfl (hs.1 _ _ _ ⟨rfl, rfl⟩) rfl rfl rfl rfl ⟨Nat.le_refl _, Nat.le_refl _⟩ rfl dL_isSound_571 ?_
                                                  rw [h5]
                                                  refine ca_iload h dL_isSound_574 rfl ?_
                                                  refine oa_v h hG ml_L_142 (n_X11_hysteresis hs e0 hc8 hsc hCp) (ci := 11) rfl rfl rfl (hs.1 _ _ _ ⟨rfl, rfl⟩) rfl rfl rfl rfl ⟨Nat.le_refl _, Nat.le_refl _⟩ rfl dL_isSound_576 ?_
                                                  refine ca_isub h dL_isSound_579 ?_
                                                  refine ca_istore h dL_isSound_580 rfl ?_
                                                  refine ca_iload h dL_isSound_582 rfl ?_
                                                  refine ca_iload h dL_isSound_584 rfl ?_
                                                  refine ca_icmp_lt (tgt := 603) h dL_isSound_586 (by decide) (fun c_586 => ?_) (fun c_586 => ?_)
                                                  · exact absurd c_586 (by rw [ei2, ei1, nI_ltI (by omega) (by omega)]; rcases hbt with z | z; (· rw [eG, eG2] at z; have := (nI_ltI (by omega) (by omega)).mp z; omega); (· have z1 := z.1; rw [eG, eG2] at z1; have := (nI_eq (by omega) (by omega)).mp z1; omega))
                                                  ·
                                                    refine ca_iload h dL_isSound_589 rfl ?_
                                                    refine ca_iload h dL_isSound_591 rfl ?_
                                                    refine ca_icmp_ne (tgt := 605) h dL_isSound_593 (by decide) (fun c_593 => ?_) (fun c_593 => ?_)
                                                    ·
                                                      refine ca_iload h dL_isSound_605 rfl ?_
                                                      refine ca_istore h dL_isSound_607 rfl ?_
                                                      refine ca_iinc h dL_isSound_609 rfl ik_1 rfl ?_
                                                      rw [show nI k + 1 = nI (k + 1) from nI_1 _]
                                                      refine ca_goto (tgt := 364) h dL_isSound_612 (by decide) ?_
                                                      refine ca_pick [7, 8, 9, 10, 11, 12, 13, 1, 0] rfl ?_
                                                      exact ih_364 (k + 1) (by omega) _ (by rw [if_neg (by omega)]; rfl) _ hN e0 hf2
                                                    ·
                                                      refine ca_iload h dL_isSound_596 rfl ?_
                                                      refine ca_iload h dL_isSound_598 rfl ?_
                                                      refine ca_icmp_le (tgt := 605) h dL_isSound_600 (by decide) (fun c_600 => ?_) (fun c_600 => ?_)
                                                      ·
                                                        refine ca_iload h dL_isSound_605 rfl ?_
                                                        refine ca_istore h dL_isSound_607 rfl ?_
                                                        refine ca_iinc h dL_isSound_609 rfl ik_1 rfl ?_
                                                        rw [show nI k + 1 = nI (k + 1) from nI_1 _]
                                                        refine ca_goto (tgt := 364) h dL_isSound_612 (by decide) ?_
                                                        refine ca_pick [7, 8, 9, 10, 11, 12, 13, 1, 0] rfl ?_
                                                        exact ih_364 (k + 1) (by omega) _ (by rw [if_neg (by omega)]; rfl) _ hN e0 hf2
                                                      · exact absurd c_600 (by rw [nI_ltI (by omega) (by omega)]; rw [ei2, ei1] at c_593; have y := (nI_eq (by omega) (by omega)).mp c_593; rcases hbt with z | z; (· rw [eG, eG2] at z; have := (nI_ltI (by omega) (by omega)).mp z; omega); (· omega))
                                                · exact absurd rfl c_560
                                            · exact absurd rfl c_523
                                          · exact absurd (bI_n0.mp c_514) (by rw [hem0] at hg; unfold k_isb; rw [if_neg (nI_pos (by omega)), if_pos (show nI (C k) < 8 from nI_lt (b := 8) (by omega) (by decide)), nI_clamp (by omega)]; have y : n 6 m (C k) < n 0 0 3 := Classical.not_not.mp (fun z => hg.2.2.1 ⟨rfl, z⟩); rw [decide_eq_true y]; decide)
                                      ·
                                        have hem1 : ¬ k_em n m = 0 := by unfold k_em; rw [h5, k_cel (by omega), decide_eq_true c_491]; decide
                                        refine ca_iconst h dL_isSound_494 ik_1 ?_
                                        refine ca_goto (tgt := 499) h dL_isSound_495 (by decide) ?_
                                        refine ca_istore h dL_isSound_499 rfl ?_
                                        refine ca_iload h dL_isSound_501 rfl ?_
                                        refine ca_if_ne (tgt := 519) h dL_isSound_503 (by decide) (fun c_503 => ?_) (fun c_503 => ?_)
                                        ·
                                          refine ca_iload h dL_isSound_519 rfl ?_
                                          refine ca_iload h dL_isSound_521 rfl ?_
                                          refine ca_if_eq (tgt := 530) h dL_isSound_523 (by decide) (fun c_523 => ?_) (fun c_523 => ?_)
                                          · exact absurd c_523 (by decide)
                                          ·
                                            refine ca_iconst h dL_isSound_526 ik_0 ?_
                                            refine ca_goto (tgt := 542) h dL_isSound_527 (by decide) ?_
                                            refine ca_isub h dL_isSound_542 ?_
                                            refine ca_istore h dL_isSound_543 rfl ?_
                                            refine ca_iload h dL_isSound_545 rfl ?_
                                            refine ca_if_lt (tgt := 605) h dL_isSound_547 (by decide) (fun c_547 => ?_) (fun c_547 => ?_)
                                            ·
                                              refine ca_iload h dL_isSound_605 rfl ?_
                                              refine ca_istore h dL_isSound_607 rfl ?_
                                              refine ca_iinc h dL_isSound_609 rfl ik_1 rfl ?_
                                              rw [show nI k + 1 = nI (k + 1) from nI_1 _]
                                              refine ca_goto (tgt := 364) h dL_isSound_612 (by decide) ?_
                                              refine ca_pick [6, 7, 8, 9, 10, 11, 12, 1, 0] rfl ?_
                                              exact ih_364 (k + 1) (by omega) _ (by rw [if_neg (by omega)]; rfl) _ hN e0 hf2
                                            ·
                                              have hk1 : ¬ k = 0 := fun z => by rw [if_pos z] at c_547; exact absurd (by decide) c_547
                                              rw [if_neg hk1]
                                              obtain ⟨hCp, hgp⟩ := hC.2.2.1 (k - 1) (by omega)
                                              obtain ⟨A2, B2, H2, G2, eA2, eB2, eH2, eG2, hA2, hB2, hG2, hs2⟩ := s_its hN.rn hKG hD.2.2.2.2.2.2 hm ht4 hsc hCp h5 hav hgp
                                              have hg2 := s_gp (by omega) (by omega) h5 hgp
                                              have hAA : A2 = A := (nI_eq (by omega) (by omega)).mp (eA2.symm.trans eA)
                                              have hbt := hC.2.2.2.1 (k - 1) k (by omega) hn1
                                              have ei1 : k_avg n m (nI (C k)) - 0 = nI (G + A) := by rw [eB, Int32.sub_zero, ← hsum]; rw [if_neg hem1] at eH; have hH := (nI_eq (a := 0) (by decide) (by omega)).mp eH; rw [← hH, Nat.add_zero]
                                              have ei2 : k_avg n m (nI (C (k - 1))) - 0 = nI (G2 + A) := by rw [eB2, Int32.sub_zero, ← hs2, hAA]; rw [if_neg hem1] at eH2; have hH := (nI_eq (a := 0) (by decide) (by omega)).mp eH2; rw [← hH, Nat.add_zero]
                                              refine ca_aload_nr h dL_isSound_550 rfl ?_
                                              refine ca_iload h dL_isSound_551 rfl ?_
                                              refine ca_iload h dL_isSound_553 rfl ?_
                                              refine oa_v h hG ml_L_198 (n_X11_average hs e0 hN.wf hm hCp) (ci := 11) rfl rfl rfl (hs.1 _ _ _ ⟨rfl, rfl⟩) rfl rfl rfl rfl ⟨Nat.le_refl _, Nat.le_refl _⟩ rfl dL_isSound_555 ?_
                                              refine ca_iload h dL_isSound_558 rfl ?_
                                              refine ca_if_eq (tgt := 567) h dL_isSound_560 (by decide) (fun c_560 => ?_) (fun c_560 => ?_)
                                              · exact absurd c_560 (by decide)
                                              ·
                                                refine ca_iconst h dL_isSound_563 ik_0 ?_
                                                refine ca_goto (tgt := 579) h dL_isSound_564 (by decide) ?_
                                                refine ca_isub h dL_isSound_579 ?_
                                                refine ca_istore h dL_isSound_580 rfl ?_
                                                refine ca_iload h dL_isSound_582 rfl ?_
                                                refine ca_iload h dL_isSound_584 rfl ?_
                                                refine ca_icmp_lt (tgt := 603) h dL_isSound_586 (by decide) (fun c_586 => ?_) (fun c_586 => ?_)
                                                · exact absurd c_586 (by rw [ei2, ei1, nI_ltI (by omega) (by omega)]; rcases hbt with z | z; (· rw [eG, eG2] at z; have := (nI_ltI (by omega) (by omega)).mp z; omega); (· have z1 := z.1; rw [eG, eG2] at z1; have := (nI_eq (by omega) (by omega)).mp z1; omega))
                                                ·
                                                  refine ca_iload h dL_isSound_589 rfl ?_
                                                  refine ca_iload h dL_isSound_591 rfl ?_
                                                  refine ca_icmp_ne (tgt := 605) h dL_isSound_593 (by decide) (fun c_593 => ?_) (fun c_593 => ?_)
                                                  ·
                                                    refine ca_iload h dL_isSound_605 rfl ?_
                                                    refine ca_istore h dL_isSound_607 rfl ?_
                                                    refine ca_iinc h dL_isSound_609 rfl ik_1 rfl ?_
                                                    rw [show nI k + 1 = nI (k + 1) from nI_1 _]
                                                    refine ca_goto (tgt := 364) h dL_isSound_612 (by decide) ?_
                                                    refine ca_pick [7, 8, 9, 10, 11, 12, 13, 1, 0] rfl ?_
                                                    exact ih_364 (k + 1) (by omega) _ (by rw [if_neg (by omega)]; rfl) _ hN e0 hf2
                                                  ·
                                                    refine ca_iload h dL_isSound_596 rfl ?_
                                                    refine ca_iload h dL_isSound_598 rfl ?_
                                                    refine ca_icmp_le (tgt := 605) h dL_isSound_600 (by decide) (fun c_600 => ?_) (fun c_600 => ?_)
                                                    ·
                                                      refine ca_iload h dL_isSound_605 rfl ?_
                                                      refine ca_istore h dL_isSound_607 rfl ?_
                                                      refine ca_iinc h dL_isSound_609 rfl ik_1 rfl ?_
                                                      rw [show nI k + 1 = nI (k + 1) from nI_1 _]
                                                      refine ca_goto (tgt := 364) h dL_isSound_612 (by decide) ?_
                                                      refine ca_pick [7, 8, 9, 10, 11, 12, 13, 1, 0] rfl ?_
                                                      exact ih_364 (k + 1) (by omega) _ (by rw [if_neg (by omega)]; rfl) _ hN e0 hf2
                                                    · exact absurd c_600 (by rw [nI_ltI (by omega) (by omega)]; rw [ei2, ei1] at c_593; have y := (nI_eq (by omega) (by omega)).mp c_593; rcases hbt with z | z; (· rw [eG, eG2] at z; have := (nI_ltI (by omega) (by omega)).mp z; omega); (· omega))
                                        · exact absurd c_503 (by decide)
                                    · exact absurd c_460 (by rw [k_rep_c (by omega)]; exact hg.2.1)
                      refine ca_pick [2, 3, 4, 5, 6, 7, 8, 1, 0] rfl ?_
                      exact loop_364 t 0 (by omega) _ rfl _ hN e0 hf2
                    refine ca_iload h dL_isSound_326 rfl ?_
                    refine ca_if_ne (tgt := 341) h dL_isSound_328 (by decide) (fun c_328 => ?_) (fun c_328 => ?_)
                    ·
                      refine ca_iload h dL_isSound_341 rfl ?_
                      refine ca_iconst h dL_isSound_343 ik_2 ?_
                      refine ca_icmp_ne (tgt := 358) h dL_isSound_344 (by decide) (fun c_344 => ?_) (fun c_344 => ?_)
                      ·
                        refine ca_pick [0, 1, 2, 3, 4, 5, 6] rfl ?_
                        exact K_358 trivial
                      ·
                        refine ca_aload_nr h dL_isSound_347 rfl ?_
                        refine ca_iload h dL_isSound_348 rfl ?_
                        refine oa_v h hG ml_L_186 (n_X11_requestCell hs e0 hm12 hm) (ci := 11) rfl rfl rfl (hs.1 _ _ _ ⟨rfl, rfl⟩) rfl rfl rfl rfl ⟨Nat.le_refl _, Nat.le_refl _⟩ rfl dL_isSound_350 ?_
                        refine ca_if_ge (tgt := 358) h dL_isSound_353 (by decide) (fun c_353 => ?_) (fun c_353 => ?_)
                        ·
                          refine ca_pick [0, 1, 2, 3, 4, 5, 6] rfl ?_
                          exact K_358 trivial
                        · exact absurd c_353 (h8nn (hM.2.2.2.2.2.2.2.2.1 c_344))
                    ·
                      refine ca_aload_nr h dL_isSound_331 rfl ?_
                      refine ca_iload h dL_isSound_332 rfl ?_
                      refine oa_v h hG ml_L_186 (n_X11_requestCell hs e0 hm12 hm) (ci := 11) rfl rfl rfl (hs.1 _ _ _ ⟨rfl, rfl⟩) rfl rfl rfl rfl ⟨Nat.le_refl _, Nat.le_refl _⟩ rfl dL_isSound_334 ?_
                      refine ca_iconst h dL_isSound_337 ik_m1 ?_
                      refine ca_icmp_ne (tgt := 356) h dL_isSound_338 (by decide) (fun c_338 => ?_) (fun c_338 => ?_)
                      · exact absurd (hM.2.2.2.2.2.2.2.1 c_328) c_338
                      ·
                        refine ca_iload h dL_isSound_341 rfl ?_
                        refine ca_iconst h dL_isSound_343 ik_2 ?_
                        refine ca_icmp_ne (tgt := 358) h dL_isSound_344 (by decide) (fun c_344 => ?_) (fun c_344 => ?_)
                        ·
                          refine ca_pick [0, 1, 2, 3, 4, 5, 6] rfl ?_
                          exact K_358 trivial
                        ·
                          refine ca_aload_nr h dL_isSound_347 rfl ?_
                          refine ca_iload h dL_isSound_348 rfl ?_
                          refine oa_v h hG ml_L_186 (n_X11_requestCell hs e0 hm12 hm) (ci := 11) rfl rfl rfl (hs.1 _ _ _ ⟨rfl, rfl⟩) rfl rfl rfl rfl ⟨Nat.le_refl _, Nat.le_refl _⟩ rfl dL_isSound_350 ?_
                          refine ca_if_ge (tgt := 358) h dL_isSound_353 (by decide) (fun c_353 => ?_) (fun c_353 => ?_)
                          ·
                            refine ca_pick [0, 1, 2, 3, 4, 5, 6] rfl ?_
                            exact K_358 trivial
                          · exact absurd c_353 (h8nn (hM.2.2.2.2.2.2.2.2.1 c_344))
                  refine ca_iload h dL_isSound_299 rfl ?_
                  refine ca_if_ne (tgt := 308) h dL_isSound_301 (by decide) (fun c_301 => ?_) (fun c_301 => ?_)
                  ·
                    refine ca_iconst h dL_isSound_308 ik_0 ?_
                    refine ca_aload_nr h dL_isSound_309 rfl ?_
                    refine ca_iload h dL_isSound_310 rfl ?_
                    refine oa_v h hG ml_L_180 (n_X11_remaining hs e0 hm12 hm) (ci := 11) rfl rfl rfl (hs.1 _ _ _ ⟨rfl, rfl⟩) rfl rfl rfl rfl ⟨Nat.le_refl _, Nat.le_refl _⟩ rfl dL_isSound_312 ?_
                    refine ca_if_ne (tgt := 322) h dL_isSound_315 (by decide) (fun c_315 => ?_) (fun c_315 => ?_)
                    ·
                      refine ca_iconst h dL_isSound_322 ik_0 ?_
                      refine ca_icmp_ne (tgt := 356) h dL_isSound_323 (by decide) (fun c_323 => ?_) (fun c_323 => ?_)
                      · exact absurd rfl c_323
                      ·
                        refine ca_pick [0, 1, 2, 3, 4, 5, 6] rfl ?_
                        exact K_326 trivial
                    · exact absurd (o_lft hN.rn hm c_301) (by rw [c_315]; decide)
                  ·
                    refine ca_iconst h dL_isSound_304 ik_1 ?_
                    refine ca_goto (tgt := 309) h dL_isSound_305 (by decide) ?_
                    refine ca_aload_nr h dL_isSound_309 rfl ?_
                    refine ca_iload h dL_isSound_310 rfl ?_
                    refine oa_v h hG ml_L_180 (n_X11_remaining hs e0 hm12 hm) (ci := 11) rfl rfl rfl (hs.1 _ _ _ ⟨rfl, rfl⟩) rfl rfl rfl rfl ⟨Nat.le_refl _, Nat.le_refl _⟩ rfl dL_isSound_312 ?_
                    refine ca_if_ne (tgt := 322) h dL_isSound_315 (by decide) (fun c_315 => ?_) (fun c_315 => ?_)
                    · exact absurd (hKG.1 m (by omega) c_301) c_315
                    ·
                      refine ca_iconst h dL_isSound_318 ik_1 ?_
                      refine ca_goto (tgt := 323) h dL_isSound_319 (by decide) ?_
                      refine ca_icmp_ne (tgt := 356) h dL_isSound_323 (by decide) (fun c_323 => ?_) (fun c_323 => ?_)
                      · exact absurd rfl c_323
                      ·
                        refine ca_pick [0, 1, 2, 3, 4, 5, 6] rfl ?_
                        exact K_326 trivial
                refine ca_iload h dL_isSound_271 rfl ?_
                refine ca_iconst h dL_isSound_273 ik_1 ?_
                refine ca_icmp_ne (tgt := 281) h dL_isSound_274 (by decide) (fun c_274 => ?_) (fun c_274 => ?_)
                ·
                  refine ca_iconst h dL_isSound_281 ik_0 ?_
                  refine ca_aload_nr h dL_isSound_282 rfl ?_
                  refine ca_iload h dL_isSound_283 rfl ?_
                  refine oa_v h hG ml_L_175 (n_X11_servingCell hs e0 hm12 hm) (ci := 11) rfl rfl rfl (hs.1 _ _ _ ⟨rfl, rfl⟩) rfl rfl rfl rfl ⟨Nat.le_refl _, Nat.le_refl _⟩ rfl dL_isSound_285 ?_
                  refine ca_if_lt (tgt := 295) h dL_isSound_288 (by decide) (fun c_288 => ?_) (fun c_288 => ?_)
                  ·
                    refine ca_iconst h dL_isSound_295 ik_0 ?_
                    refine ca_icmp_ne (tgt := 356) h dL_isSound_296 (by decide) (fun c_296 => ?_) (fun c_296 => ?_)
                    · exact absurd rfl c_296
                    ·
                      refine ca_pick [0, 1, 2, 3, 4, 5, 6] rfl ?_
                      exact K_299 trivial
                  · exact absurd (hsv.2 c_274) c_288
                ·
                  refine ca_iconst h dL_isSound_277 ik_1 ?_
                  refine ca_goto (tgt := 282) h dL_isSound_278 (by decide) ?_
                  refine ca_aload_nr h dL_isSound_282 rfl ?_
                  refine ca_iload h dL_isSound_283 rfl ?_
                  refine oa_v h hG ml_L_175 (n_X11_servingCell hs e0 hm12 hm) (ci := 11) rfl rfl rfl (hs.1 _ _ _ ⟨rfl, rfl⟩) rfl rfl rfl rfl ⟨Nat.le_refl _, Nat.le_refl _⟩ rfl dL_isSound_285 ?_
                  refine ca_if_lt (tgt := 295) h dL_isSound_288 (by decide) (fun c_288 => ?_) (fun c_288 => ?_)
                  · exact absurd c_288 (hsv.1 c_274)
                  ·
                    refine ca_iconst h dL_isSound_291 ik_1 ?_
                    refine ca_goto (tgt := 296) h dL_isSound_292 (by decide) ?_
                    refine ca_icmp_ne (tgt := 356) h dL_isSound_296 (by decide) (fun c_296 => ?_) (fun c_296 => ?_)
                    · exact absurd rfl c_296
                    ·
                      refine ca_pick [0, 1, 2, 3, 4, 5, 6] rfl ?_
                      exact K_299 trivial
              refine ca_aload_nr h dL_isSound_259 rfl ?_
              refine ca_iload h dL_isSound_260 rfl ?_
              refine oa_v h hG ml_L_186 (n_X11_requestCell hs e0 hm12 hm) (ci := 11) rfl rfl rfl (hs.1 _ _ _ ⟨rfl, rfl⟩) rfl rfl rfl rfl ⟨Nat.le_refl _, Nat.le_refl _⟩ rfl dL_isSound_262 ?_
              refine ca_if_lt (tgt := 271) h dL_isSound_265 (by decide) (fun c_265 => ?_) (fun c_265 => ?_)
              ·
                refine ca_pick [1, 2, 3, 4, 5, 6, 0] rfl ?_
                exact K_271 _ (by rw [kf_s]; unfold s_rm; rw [if_pos c_265])
              ·
                refine ca_iinc h dL_isSound_268 rfl ik_m1 rfl ?_
                refine ca_pick [2, 3, 4, 0, 5, 6, 1] rfl ?_
                exact K_271 _ (by rw [kf_s]; unfold s_rm; rw [if_neg c_265])
        refine ca_pick [1, 2, 3, 4, 5, 0] rfl ?_
        exact loop_245 (k_mc n) 0 (by omega) _ (s_R_I n _) _ hD.2.2.2.1 μ hN e0 o_f15_0
      · exact absurd c_19 (by rw [hn]; exact Int32.lt_irrefl)
    | succ jj ih_13 =>
      intro c hn x3 e3 x4 e4
      have hn1 : c < k_cc n := by omega
      subst e3 e4
      have hc := hn1
      have hWl := o_W_le n c
      refine ca_iload h dL_isSound_13 rfl ?_
      refine ca_aload_nr h dL_isSound_15 rfl ?_
      refine gi_L_31 h (hN.st.1 _ _ _ (by show _ ∧ _; omega)) dL_isSound_16 ?_
      refine ca_top (y := nI (k_cc n)) hN.cells ?_
      refine ca_icmp_ge (tgt := 242) h dL_isSound_19 (by decide) (fun c_19 => ?_) (fun c_19 => ?_)
      · exact absurd (nI_lt hn1 (by omega)) c_19
      ·
        refine ca_iconst h dL_isSound_22 ik_0 ?_
        refine ca_istore h dL_isSound_23 rfl ?_
        refine ca_iconst h dL_isSound_25 ik_0 ?_
        refine ca_istore h dL_isSound_26 rfl ?_
        have loop_28 : ∀ (jj i : Nat), i + jj = k_mc n → ∀ (x6 : Int32) (e6 : x6 = kf (s_bz n c) i 0), ch_W X E 14 S μ 0 0 28 [(0, .ref (S.1 15 11 0)), (1, .ref (S.1 16 22 0)), (2, .int (nI (k_mc n))), (3, .int (kf (s_rv n) c 0)), (4, .int (kf (s_sa n) c 0)), (5, .int (nI c)), (6, .int x6), (7, .int (nI i))] [] := by
          intro jj
          induction jj with
          | zero =>
            intro i hn x6 e6
            have hn : i = k_mc n := by omega
            subst e6
            refine ca_iload h dL_isSound_28 rfl ?_
            refine ca_iload_n h dL_isSound_30 rfl ?_
            refine ca_icmp_ge (tgt := 54) h dL_isSound_31 (by decide) (fun c_31 => ?_) (fun c_31 => ?_)
            ·
              rw [hn]
              rw [show kf (s_bz n c) (k_mc n) 0 = k_tk n (nI c) from s_busy hN.rn (by omega)]
              refine ca_aload_nr h dL_isSound_54 rfl ?_
              refine ca_iload h dL_isSound_55 rfl ?_
              refine oa_v h hG ml_L_130 (n_X11_queueLength hs e0 hm12 hc) (ci := 11) rfl rfl rfl (hs.1 _ _ _ ⟨rfl, rfl⟩) rfl rfl rfl rfl ⟨Nat.le_refl _, Nat.le_refl _⟩ rfl dL_isSound_57 ?_
              rw [o_W_rq n c]
              refine ca_istore h dL_isSound_60 rfl ?_
              refine ca_aload_nr h dL_isSound_62 rfl ?_
              refine ca_iload h dL_isSound_63 rfl ?_
              refine oa_v h hG ml_L_124 (n_X11_busyChannels hs e0 hm12 hc) (ci := 11) rfl rfl rfl (hs.1 _ _ _ ⟨rfl, rfl⟩) rfl rfl rfl rfl ⟨Nat.le_refl _, Nat.le_refl _⟩ rfl dL_isSound_65 ?_
              refine ca_iload h dL_isSound_68 rfl ?_
              refine ca_icmp_ne (tgt := 126) h dL_isSound_70 (by decide) (fun c_70 => ?_) (fun c_70 => ?_)
              · exact absurd rfl c_70
              ·
                refine ca_iload h dL_isSound_73 rfl ?_
                refine ca_aload_nr h dL_isSound_75 rfl ?_
                refine gr_L_35 h (hN.st.1 _ _ _ (by show _ ∧ _; omega)) (hN.st.2.1 _ _ _ _ _ (by show _ ∧ _; omega) rfl) dL_isSound_76 ?_
                show ch_W X E _ _ _ _ _ _ _ (.ref (S.1 16 24 0) :: _)
                refine ca_iload h dL_isSound_79 rfl ?_
                refine oa_aald h (j := c) rfl (by decide) (hN.st.1 _ _ _ (by show _ ∧ _; omega)) rfl (by omega) (by decide) (hN.st.2.1 _ _ _ _ _ (by show _ ∧ _; omega) (o_rt240 (by omega))) dL_isSound_81 ?_
                show ch_W X E _ _ _ _ _ _ _ (.ref (S.1 16 48 c) :: _)
                refine ca_iconst h dL_isSound_82 ik_4 ?_
                refine oa_iald h (j := 4) rfl (hN.st.1 _ _ _ (by show _ ∧ _; omega)) rfl (by omega) (by decide) dL_isSound_83 ?_
                refine ca_top (y := n 1 c 4) (hN.cf (by omega) (by decide)) ?_
                refine ca_icmp_gt (tgt := 126) h dL_isSound_84 (by decide) (fun c_84 => ?_) (fun c_84 => ?_)
                · exact absurd c_84 (hD.1 c hc)
                ·
                  refine ca_iload h dL_isSound_87 rfl ?_
                  refine ca_aload_nr h dL_isSound_89 rfl ?_
                  refine gr_L_35 h (hN.st.1 _ _ _ (by show _ ∧ _; omega)) (hN.st.2.1 _ _ _ _ _ (by show _ ∧ _; omega) rfl) dL_isSound_90 ?_
                  show ch_W X E _ _ _ _ _ _ _ (.ref (S.1 16 24 0) :: _)
                  refine ca_iload h dL_isSound_93 rfl ?_
                  refine oa_aald h (j := c) rfl (by decide) (hN.st.1 _ _ _ (by show _ ∧ _; omega)) rfl (by omega) (by decide) (hN.st.2.1 _ _ _ _ _ (by show _ ∧ _; omega) (o_rt240 (by omega))) dL_isSound_95 ?_
                  show ch_W X E _ _ _ _ _ _ _ (.ref (S.1 16 48 c) :: _)
                  refine ca_iconst h dL_isSound_96 ik_5 ?_
                  refine oa_iald h (j := 5) rfl (hN.st.1 _ _ _ (by show _ ∧ _; omega)) rfl (by omega) (by decide) dL_isSound_97 ?_
                  refine ca_top (y := n 1 c 5) (hN.cf (by omega) (by decide)) ?_
                  refine ca_icmp_gt (tgt := 126) h dL_isSound_98 (by decide) (fun c_98 => ?_) (fun c_98 => ?_)
                  · exact absurd c_98 (by rw [← o_W_rq]; exact hD.2.1 c hc)
                  ·
                    refine ca_aload_nr h dL_isSound_101 rfl ?_
                    refine ca_iload h dL_isSound_102 rfl ?_
                    refine ca_iload h dL_isSound_104 rfl ?_
                    refine oa_v h hG ml_L_139 (n_X11_queued hs e0 hm12 hc (nI_pos (by omega))) (ci := 11) rfl rfl rfl (hs.1 _ _ _ ⟨rfl, rfl⟩) rfl rfl rfl rfl ⟨Nat.le_refl _, Nat.le_refl _⟩ rfl dL_isSound_106 ?_
                    rw [s_qE hN.rn hA (by omega)]
                    refine ca_iconst h dL_isSound_109 ik_m1 ?_
                    refine ca_icmp_ne (tgt := 126) h dL_isSound_110 (by decide) (fun c_110 => ?_) (fun c_110 => ?_)
                    · exact absurd rfl c_110
                    ·
                      refine ca_aload_nr h dL_isSound_113 rfl ?_
                      refine ca_iload h dL_isSound_114 rfl ?_
                      refine oa_v h hG ml_L_133 (n_X11_congestedTicks hs e0 hc8 hc) (ci := 11) rfl rfl rfl (hs.1 _ _ _ ⟨rfl, rfl⟩) rfl rfl rfl rfl ⟨Nat.le_refl _, Nat.le_refl _⟩ rfl dL_isSound_116 ?_
                      refine ca_aload_nr h dL_isSound_119 rfl ?_
                      refine oa_v h hG ml_L_108 (n_X11_clock hs e0 ) (ci := 11) rfl rfl rfl (hs.1 _ _ _ ⟨rfl, rfl⟩) rfl rfl rfl rfl ⟨Nat.le_refl _, Nat.le_refl _⟩ rfl dL_isSound_120 ?_
                      refine ca_icmp_le (tgt := 128) h dL_isSound_123 (by decide) (fun c_123 => ?_) (fun c_123 => ?_)
                      ·
                        refine ca_iconst h dL_isSound_128 ik_0 ?_
                        refine ca_istore h dL_isSound_129 rfl ?_
                        have loop_131 : ∀ (jj k : Nat), k + jj = o_W n c → ∀ (_ : True), ch_W X E 14 S μ 0 0 131 [(0, .ref (S.1 15 11 0)), (1, .ref (S.1 16 22 0)), (2, .int (nI (k_mc n))), (3, .int (kf (s_rv n) c 0)), (4, .int (kf (s_sa n) c 0)), (5, .int (nI c)), (7, .int (nI (o_W n c))), (8, .int (nI k))] [] := by
                          intro jj
                          induction jj with
                          | zero =>
                            intro k hn _
                            have hn : k = o_W n c := by omega
                            refine ca_iload h dL_isSound_131 rfl ?_
                            refine ca_iload h dL_isSound_133 rfl ?_
                            refine ca_icmp_ge (tgt := 200) h dL_isSound_135 (by decide) (fun c_135 => ?_) (fun c_135 => ?_)
                            ·
                              refine ca_iload_n h dL_isSound_200 rfl ?_
                              refine ca_iload h dL_isSound_201 rfl ?_
                              refine ca_iadd h dL_isSound_203 ?_
                              refine ca_top (y := kf (s_rv n) (c + 1) 0) (by show _ = _ + k_rq n (nI c); rw [o_W_rq]) ?_
                              refine ca_istore_n h dL_isSound_204 rfl ?_
                              refine ca_iconst h dL_isSound_205 ik_0 ?_
                              refine ca_istore h dL_isSound_206 rfl ?_
                              have loop_208 : ∀ (jj b : Nat), b + jj = k_cc n → ∀ (x4 : Int32) (e4 : x4 = kf (s_sb n c) b (kf (s_sa n) c 0)), ch_W X E 14 S μ 0 0 208 [(0, .ref (S.1 15 11 0)), (1, .ref (S.1 16 22 0)), (2, .int (nI (k_mc n))), (3, .int (kf (s_rv n) (c + 1) 0)), (4, .int x4), (5, .int (nI c)), (8, .int (nI b))] [] := by
                                intro jj
                                induction jj with
                                | zero =>
                                  intro b hn x4 e4
                                  have hn : b = k_cc n := by omega
                                  subst e4
                                  refine ca_iload h dL_isSound_208 rfl ?_
                                  refine ca_aload_nr h dL_isSound_210 rfl ?_
                                  refine gi_L_31 h (hN.st.1 _ _ _ (by show _ ∧ _; omega)) dL_isSound_211 ?_
                                  refine ca_top (y := nI (k_cc n)) hN.cells ?_
                                  refine ca_icmp_ge (tgt := 236) h dL_isSound_214 (by decide) (fun c_214 => ?_) (fun c_214 => ?_)
                                  ·
                                    refine ca_iinc h dL_isSound_236 rfl ik_1 rfl ?_
                                    rw [show nI c + 1 = nI (c + 1) from nI_1 _]
                                    refine ca_goto (tgt := 13) h dL_isSound_239 (by decide) ?_
                                    refine ca_pick [1, 2, 3, 4, 5, 0] rfl ?_
                                    exact ih_13 (c + 1) (by omega) _ rfl _ (by rw [hn]; rfl)
                                  · exact absurd c_214 (by rw [hn]; exact Int32.lt_irrefl)
                                | succ jj ih_208 =>
                                  intro b hn x4 e4
                                  have hn1 : b < k_cc n := by omega
                                  subst e4
                                  refine ca_iload h dL_isSound_208 rfl ?_
                                  refine ca_aload_nr h dL_isSound_210 rfl ?_
                                  refine gi_L_31 h (hN.st.1 _ _ _ (by show _ ∧ _; omega)) dL_isSound_211 ?_
                                  refine ca_top (y := nI (k_cc n)) hN.cells ?_
                                  refine ca_icmp_ge (tgt := 236) h dL_isSound_214 (by decide) (fun c_214 => ?_) (fun c_214 => ?_)
                                  · exact absurd (nI_lt hn1 (by omega)) c_214
                                  ·
                                    refine ca_iload h dL_isSound_217 rfl ?_
                                    refine ca_aload_nr h dL_isSound_219 rfl ?_
                                    refine ca_iload h dL_isSound_220 rfl ?_
                                    refine ca_iload h dL_isSound_222 rfl ?_
                                    refine oa_v h hG ml_L_144 (n_X11_successes hs e0 hc8 hc hn1) (ci := 11) rfl rfl rfl (hs.1 _ _ _ ⟨rfl, rfl⟩) rfl rfl rfl rfl ⟨Nat.le_refl _, Nat.le_refl _⟩ rfl dL_isSound_224 ?_
                                    refine ca_iadd h dL_isSound_227 ?_
                                    refine ca_istore h dL_isSound_228 rfl ?_
                                    refine ca_iinc h dL_isSound_230 rfl ik_1 rfl ?_
                                    rw [show nI b + 1 = nI (b + 1) from nI_1 _]
                                    refine ca_goto (tgt := 208) h dL_isSound_233 (by decide) ?_
                                    refine ca_pick [2, 3, 4, 5, 1, 6, 0] rfl ?_
                                    exact ih_208 (b + 1) (by omega) _ rfl
                              refine ca_pick [2, 3, 4, 1, 5, 6, 0] rfl ?_
                              exact loop_208 (k_cc n) 0 (by omega) _ rfl
                            · exact absurd c_135 (by rw [hn]; exact Int32.lt_irrefl)
                          | succ jj ih_131 =>
                            intro k hn _
                            have hn1 : k < o_W n c := by omega
                            refine ca_iload h dL_isSound_131 rfl ?_
                            refine ca_iload h dL_isSound_133 rfl ?_
                            refine ca_icmp_ge (tgt := 200) h dL_isSound_135 (by decide) (fun c_135 => ?_) (fun c_135 => ?_)
                            · exact absurd (nI_lt hn1 (by omega)) c_135
                            ·
                              refine ca_aload_nr h dL_isSound_138 rfl ?_
                              refine ca_iload h dL_isSound_139 rfl ?_
                              refine ca_iload h dL_isSound_141 rfl ?_
                              refine oa_v h hG ml_L_139 (n_X11_queued hs e0 hm12 hc (nI_pos (by omega))) (ci := 11) rfl rfl rfl (hs.1 _ _ _ ⟨rfl, rfl⟩) rfl rfl rfl rfl ⟨Nat.le_refl _, Nat.le_refl _⟩ rfl dL_isSound_143 ?_
                              obtain ⟨m, hm, em, h8, ek⟩ := s_q hN.rn hA (c := c) (k := k) (by omega) hn1
                              rw [em]
                              refine ca_istore h dL_isSound_146 rfl ?_
                              refine ca_aload_nr h dL_isSound_148 rfl ?_
                              refine ca_iload h dL_isSound_149 rfl ?_
                              refine oa_v h hG ml_L_186 (n_X11_requestCell hs e0 hm12 hm) (ci := 11) rfl rfl rfl (hs.1 _ _ _ ⟨rfl, rfl⟩) rfl rfl rfl rfl ⟨Nat.le_refl _, Nat.le_refl _⟩ rfl dL_isSound_151 ?_
                              rw [h8]
                              refine ca_iload h dL_isSound_154 rfl ?_
                              refine ca_icmp_ne (tgt := 192) h dL_isSound_156 (by decide) (fun c_156 => ?_) (fun c_156 => ?_)
                              · exact absurd rfl c_156
                              ·
                                refine ca_iload h dL_isSound_159 rfl ?_
                                refine ca_if_le (tgt := 194) h dL_isSound_161 (by decide) (fun c_161 => ?_) (fun c_161 => ?_)
                                ·
                                  refine ca_iinc h dL_isSound_194 rfl ik_1 rfl ?_
                                  rw [show nI k + 1 = nI (k + 1) from nI_1 _]
                                  refine ca_goto (tgt := 131) h dL_isSound_197 (by decide) ?_
                                  refine ca_pick [2, 3, 4, 5, 6, 7, 8, 0] rfl ?_
                                  exact ih_131 (k + 1) (by omega) trivial
                                ·
                                  have hk0 : 1 ≤ k := by rcases Nat.eq_zero_or_pos k with z | z; (· rw [z] at c_161; exact absurd c_161 (by decide)); (· exact z)
                                  refine ca_aload_nr h dL_isSound_164 rfl ?_
                                  refine ca_aload_nr h dL_isSound_165 rfl ?_
                                  refine ca_iload h dL_isSound_166 rfl ?_
                                  refine ca_iload h dL_isSound_168 rfl ?_
                                  refine ca_iconst h dL_isSound_170 ik_1 ?_
                                  refine ca_isub h dL_isSound_171 ?_
                                  refine ca_top (y := nI (k - 1)) (o_pr hk0) ?_
                                  refine oa_v h hG ml_L_139 (n_X11_queued hs e0 hm12 hc (nI_pos (by omega))) (ci := 11) rfl rfl rfl (hs.1 _ _ _ ⟨rfl, rfl⟩) rfl rfl rfl rfl ⟨Nat.le_refl _, Nat.le_refl _⟩ rfl dL_isSound_172 ?_
                                  obtain ⟨p, hp, ep, hp8, epk⟩ := s_q hN.rn hA (c := c) (k := k - 1) (by omega) (by omega)
                                  rw [ep]
                                  refine oa_v h hG ml_L_170 (n_X11_state hs e0 hm12 hp) (ci := 11) rfl rfl rfl (hs.1 _ _ _ ⟨rfl, rfl⟩) rfl rfl rfl rfl ⟨Nat.le_refl _, Nat.le_refl _⟩ rfl dL_isSound_175 ?_
                                  refine ca_iconst h dL_isSound_178 ik_2 ?_
                                  refine ca_icmp_ne (tgt := 194) h dL_isSound_179 (by decide) (fun c_179 => ?_) (fun c_179 => ?_)
                                  ·
                                    refine ca_iinc h dL_isSound_194 rfl ik_1 rfl ?_
                                    rw [show nI k + 1 = nI (k + 1) from nI_1 _]
                                    refine ca_goto (tgt := 131) h dL_isSound_197 (by decide) ?_
                                    refine ca_pick [2, 3, 4, 5, 6, 7, 8, 0] rfl ?_
                                    exact ih_131 (k + 1) (by omega) trivial
                                  ·
                                    refine ca_aload_nr h dL_isSound_182 rfl ?_
                                    refine ca_iload h dL_isSound_183 rfl ?_
                                    refine oa_v h hG ml_L_170 (n_X11_state hs e0 hm12 hm) (ci := 11) rfl rfl rfl (hs.1 _ _ _ ⟨rfl, rfl⟩) rfl rfl rfl rfl ⟨Nat.le_refl _, Nat.le_refl _⟩ rfl dL_isSound_185 ?_
                                    refine ca_iconst h dL_isSound_188 ik_1 ?_
                                    refine ca_icmp_ne (tgt := 194) h dL_isSound_189 (by decide) (fun c_189 => ?_) (fun c_189 => ?_)
                                    ·
                                      refine ca_iinc h dL_isSound_194 rfl ik_1 rfl ?_
                                      rw [show nI k + 1 = nI (k + 1) from nI_1 _]
                                      refine ca_goto (tgt := 131) h dL_isSound_197 (by decide) ?_
                                      refine ca_pick [2, 3, 4, 5, 6, 7, 8, 0] rfl ?_
                                      exact ih_131 (k + 1) (by omega) trivial
                                    · exact absurd c_189 (s_qo (by rw [epk, ek]; omega) c_179)
                        refine ca_pick [2, 3, 4, 5, 6, 7, 1, 0] rfl ?_
                        exact loop_131 (o_W n c) 0 (by omega) trivial
                      · exact absurd c_123 (hD.2.2.1 c hc)
            · exact absurd c_31 (by rw [hn]; exact Int32.lt_irrefl)
          | succ jj ih_28 =>
            intro i hn x6 e6
            have hn1 : i < k_mc n := by omega
            subst e6
            refine ca_iload h dL_isSound_28 rfl ?_
            refine ca_iload_n h dL_isSound_30 rfl ?_
            refine ca_icmp_ge (tgt := 54) h dL_isSound_31 (by decide) (fun c_31 => ?_) (fun c_31 => ?_)
            · exact absurd (nI_lt hn1 (by omega)) c_31
            ·
              refine ca_aload_nr h dL_isSound_34 rfl ?_
              refine ca_iload h dL_isSound_35 rfl ?_
              refine oa_v h hG ml_L_175 (n_X11_servingCell hs e0 hm12 hn1) (ci := 11) rfl rfl rfl (hs.1 _ _ _ ⟨rfl, rfl⟩) rfl rfl rfl rfl ⟨Nat.le_refl _, Nat.le_refl _⟩ rfl dL_isSound_37 ?_
              refine ca_iload h dL_isSound_40 rfl ?_
              refine ca_icmp_ne (tgt := 48) h dL_isSound_42 (by decide) (fun c_42 => ?_) (fun c_42 => ?_)
              ·
                refine ca_iinc h dL_isSound_48 rfl ik_1 rfl ?_
                rw [show nI i + 1 = nI (i + 1) from nI_1 _]
                refine ca_goto (tgt := 28) h dL_isSound_51 (by decide) ?_
                refine ca_pick [1, 2, 3, 4, 5, 6, 7, 0] rfl ?_
                exact ih_28 (i + 1) (by omega) _ (by rw [kf_s]; unfold s_bz; rw [if_neg c_42])
              ·
                refine ca_iinc h dL_isSound_45 rfl ik_1 rfl ?_
                refine ca_iinc h dL_isSound_48 rfl ik_1 rfl ?_
                rw [show nI i + 1 = nI (i + 1) from nI_1 _]
                refine ca_goto (tgt := 28) h dL_isSound_51 (by decide) ?_
                refine ca_pick [2, 3, 4, 5, 6, 7, 1, 0] rfl ?_
                exact ih_28 (i + 1) (by omega) _ (by rw [kf_s]; unfold s_bz; rw [if_pos c_42])
        refine ca_pick [2, 3, 4, 5, 6, 7, 1, 0] rfl ?_
        exact loop_28 (k_mc n) 0 (by omega) _ rfl
  refine ca_pick [4, 5, 3, 2, 1, 0] rfl ?_
  exact loop_13 (k_cc n) 0 (by omega) _ rfl _ rfl
