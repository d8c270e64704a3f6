set_option maxHeartbeats 1000000 in
theorem c_stepB {X : ch_X} {E : ch_E} {n q : ch_N} {S S0 : ch_S} {μ μ0 : ch_M} (h : ch_H X E RX13 cX13_step 7) (hG : ch_G X 4 984 2112) (hR : ch_R X E none 984 2112 (o_PS none (k_tick (n, q)).1 S0 μ0)) {w : Nat → Int32} (hm12 : k_mc n ≤ 12) (hc8 : k_cc n ≤ 8) (hC : ¬ n 0 0 3 < 0 ∧ ¬ 100000 < n 0 0 3) (hck : ¬ 100000 < n 0 0 3 + 1) {n2 : ch_N} (hN : o_NW n2 w S μ) (hf : o_fr S0 μ0 S μ) (z2 : n2 0 = n 0) (hKG : k_G n) (hQ2 : o_Q n2) (hP2 : r_P n2 (k_mc n)) (e2 : k_t1 n = kf s_sv (k_cc n) (kf s_dr (k_mc n) (kf s_fin (k_mc n) n2))) : ch_W X E 7 S μ 96 768 288 [(0, .ref (S.1 16 22 0))] [] := by
  refine ca_iconst h dX13_step_288 ik_0 ?_
  refine ca_istore_n h dX13_step_289 rfl ?_
  have loop_290 : ∀ (jj j : Nat), j + jj = k_mc n → ∀ (S : ch_S) (μ : ch_M) (w : Nat → Int32) (hN : o_NW (kf s_fin j n2) w S μ) (hf : o_fr S0 μ0 S μ) (hPj : r_P (kf s_fin j n2) (k_mc n)), ch_W X E 7 S μ 96 768 290 [(0, .ref (S.1 16 22 0)), (1, .int (nI j))] [] := by
    intro jj
    induction jj with
    | zero =>
      intro j hn S μ w hN hf hPj
      have hn : j = k_mc n := by omega
      obtain ⟨nj, hnj⟩ : ∃ z, z = kf s_fin j n2 := ⟨_, rfl⟩
      rw [← hnj] at hN
      have e0j : nj 0 = n 0 := by rw [hnj]; exact (kf_0 s_fin_0 _ n2).trans z2
      have emm : k_mc nj = k_mc n := k_mc_0 e0j
      have ecc : k_cc nj = k_cc n := k_cc_0 e0j
      rw [← hnj] at hPj
      refine ca_iload_n h dX13_step_290 rfl ?_
      refine ca_aload_nr h dX13_step_291 rfl ?_
      refine gi_X13_60 h (hN.st.1 _ _ _ (by show _ ∧ _; omega)) dX13_step_292 ?_
      refine ca_top (y := nI (k_mc n)) (hN.many.trans (by rw [emm])) ?_
      refine ca_icmp_ge (tgt := 355) h dX13_step_295 (by decide) (fun c_295 => ?_) (fun c_295 => ?_)
      ·
        obtain ⟨n3, en3⟩ : ∃ z, z = kf s_fin (k_mc n) n2 := ⟨_, rfl⟩
        have hN : o_NW n3 w S μ := by rw [en3, ← hn, ← hnj]; exact hN
        have z3 : n3 0 = n 0 := by rw [en3]; exact (kf_0 s_fin_0 _ n2).trans z2
        have hP3 : r_P n3 (k_mc n) := by rw [en3, ← hn, ← hnj]; rw [hn]; exact hPj
        refine ca_pick [0] rfl ?_
        exact c_stepC h hG hR hm12 hc8 hC hck hN hf z3 hKG (by rw [en3]; exact o_Q_rl hQ2 (o_rl_kf o_rl_fin _ _)) hP3 (by rw [e2, en3])
      · exact absurd c_295 (by rw [hn]; exact Int32.lt_irrefl)
    | succ jj ih_290 =>
      intro j hn S μ w hN hf hPj
      have hn1 : j < k_mc n := by omega
      obtain ⟨nj, hnj⟩ : ∃ z, z = kf s_fin j n2 := ⟨_, rfl⟩
      rw [← hnj] at hN
      have e0j : nj 0 = n 0 := by rw [hnj]; exact (kf_0 s_fin_0 _ n2).trans z2
      have emm : k_mc nj = k_mc n := k_mc_0 e0j
      have ecc : k_cc nj = k_cc n := k_cc_0 e0j
      rw [← hnj] at hPj
      have hjm : j < k_mc nj := by omega
      refine ca_iload_n h dX13_step_290 rfl ?_
      refine ca_aload_nr h dX13_step_291 rfl ?_
      refine gi_X13_60 h (hN.st.1 _ _ _ (by show _ ∧ _; omega)) dX13_step_292 ?_
      refine ca_top (y := nI (k_mc n)) (hN.many.trans (by rw [emm])) ?_
      refine ca_icmp_ge (tgt := 355) h dX13_step_295 (by decide) (fun c_295 => ?_) (fun c_295 => ?_)
      · exact absurd (nI_lt hn1 (by omega)) c_295
      ·
        refine ca_aload_nr h dX13_step_298 rfl ?_
        refine gr_X13_52 h (hN.st.1 _ _ _ (by show _ ∧ _; omega)) (hN.st.2.1 _ _ _ _ _ (by show _ ∧ _; omega) rfl) dX13_step_299 ?_
        show ch_W X E _ _ _ _ _ _ _ (.ref (S.1 16 25 0) :: _)
        refine ca_iload_n h dX13_step_302 rfl ?_
        refine oa_aald h (j := j) rfl (by decide) (hN.st.1 _ _ _ (by show _ ∧ _; omega)) rfl (by omega) (by decide) (hN.st.2.1 _ _ _ _ _ (by show _ ∧ _; omega) (o_rt25 (by omega))) dX13_step_303 ?_
        show ch_W X E _ _ _ _ _ _ _ (.ref (S.1 16 23 j) :: _)
        refine gi_X13_88 h (hN.st.1 _ _ _ (by show _ ∧ _; omega)) dX13_step_304 ?_
        refine ca_top (y := nj 3 j 4) (hN.mf (f := 4) (by omega) (by decide)) ?_
        refine ca_iconst h dX13_step_307 ik_1 ?_
        refine ca_icmp_ne (tgt := 349) h dX13_step_308 (by decide) (fun c_308 => ?_) (fun c_308 => ?_)
        ·
          refine ca_iinc h dX13_step_349 rfl ik_1 rfl ?_
          rw [show nI j + 1 = nI (j + 1) from nI_1 _]
          refine ca_goto (tgt := 290) h dX13_step_352 (by decide) ?_
          refine ca_pick [1, 0] rfl ?_
          have e9 : kf s_fin (j + 1) n2 = nj := by rw [kf_s, ← hnj]; unfold s_fin; rw [if_neg c_308]
          exact ih_290 (j + 1) (by omega) S μ w (by rw [e9]; exact hN) hf (by rw [kf_s, ← hnj]; exact r_P_fin hPj)
        ·
          refine ca_aload_nr h dX13_step_311 rfl ?_
          refine gr_X13_52 h (hN.st.1 _ _ _ (by show _ ∧ _; omega)) (hN.st.2.1 _ _ _ _ _ (by show _ ∧ _; omega) rfl) dX13_step_312 ?_
          show ch_W X E _ _ _ _ _ _ _ (.ref (S.1 16 25 0) :: _)
          refine ca_iload_n h dX13_step_315 rfl ?_
          refine oa_aald h (j := j) rfl (by decide) (hN.st.1 _ _ _ (by show _ ∧ _; omega)) rfl (by omega) (by decide) (hN.st.2.1 _ _ _ _ _ (by show _ ∧ _; omega) (o_rt25 (by omega))) dX13_step_316 ?_
          show ch_W X E _ _ _ _ _ _ _ (.ref (S.1 16 23 j) :: _)
          refine ca_dup h dX13_step_317 rfl ?_
          refine gi_X13_125 h (hN.st.1 _ _ _ (by show _ ∧ _; omega)) dX13_step_318 ?_
          refine ca_top (y := nj 3 j 6) (hN.mf (f := 6) (by omega) (by decide)) ?_
          refine ca_iconst h dX13_step_321 ik_1 ?_
          refine ca_isub h dX13_step_322 ?_
          refine oa_dupx1 h dX13_step_323 rfl rfl ?_
          refine pi_X13_125 h (hN.st.1 _ _ _ (by show _ ∧ _; omega)) dX13_step_324 ?_
          refine ca_if_ne (tgt := 349) h dX13_step_327 (by decide) (fun c_327 => ?_) (fun c_327 => ?_)
          ·
            refine ca_iinc h dX13_step_349 rfl ik_1 rfl ?_
            rw [show nI j + 1 = nI (j + 1) from nI_1 _]
            refine ca_goto (tgt := 290) h dX13_step_352 (by decide) ?_
            refine ca_pick [1, 0] rfl ?_
            have hlt := o_lft hN.rn hjm (by rw [c_308]; decide)
            have g8 : k_cc nj ≤ 8 := by omega
            have hps := (r_left hlt).mp c_327
            have e9 : kf s_fin (j + 1) n2 = nw nj 3 j 6 (nj 3 j 6 - 1) := by rw [kf_s, ← hnj]; unfold s_fin; rw [if_pos c_308, k_fin_eq, if_pos hps]
            refine ih_290 (j + 1) (by omega) S _ (up w (210 + 91 * j + 6) (nj 3 j 6 - 1)) ?_ (o_fr_st (hf)) (by rw [kf_s, ← hnj]; exact r_P_fin hPj)
            rw [e9]
            exact o_NW_mk hN.st (k_cc_0 (nw_k (by decide))) (k_mc_0 (nw_k (by decide))) (r_N_set hN.rn hjm (by omega) (fun _ _ => hps) (fun z => by omega)) (o_R_mob hN.R (by decide)) (o_A_mob (o_A_n hN.A (nw_k (by decide)) (nw_k (by decide)) (nw_k (by decide)) (k_cc_0 (nw_k (by decide)))) (by rw [k_cc_0 (nw_k (by decide))]; exact g8))
          ·
            refine ca_aload_nr h dX13_step_330 rfl ?_
            refine gr_X13_52 h (hN.st.1 _ _ _ (by show _ ∧ _; omega)) (hN.st.2.1 _ _ _ _ _ (by show _ ∧ _; omega) rfl) dX13_step_331 ?_
            show ch_W X E _ _ _ _ _ _ _ (.ref (S.1 16 25 0) :: _)
            refine ca_iload_n h dX13_step_334 rfl ?_
            refine oa_aald h (j := j) rfl (by decide) (hN.st.1 _ _ _ (by show _ ∧ _; omega)) rfl (by omega) (by decide) (hN.st.2.1 _ _ _ _ _ (by show _ ∧ _; omega) (o_rt25 (by omega))) dX13_step_335 ?_
            show ch_W X E _ _ _ _ _ _ _ (.ref (S.1 16 23 j) :: _)
            refine oa_n h hG (host := "CellHandoverLaw") (List.mem_of_getElem? (i := 9) rfl) kw_738 ks_23 kw_25 kw_740 (n := 0) ⟨by decide, by decide, by decide +kernel⟩ (c_X12_endsM hN.st (m := j) hjm) (ci := 12) rfl rfl rfl (hN.st.1 _ _ _ (by show _ ∧ _; omega)) rfl rfl rfl rfl ⟨by omega, by omega⟩ rfl dX13_step_336 ?_
            refine ca_aload_nr h dX13_step_339 rfl ?_
            refine gr_X13_44 h (hN.st.1 _ _ _ (by show _ ∧ _; omega)) (hN.st.2.1 _ _ _ _ _ (by show _ ∧ _; omega) rfl) dX13_step_340 ?_
            show ch_W X E _ _ _ _ _ _ _ (.ref (S.1 16 48 32) :: _)
            refine ca_iconst h dX13_step_343 ik_2 ?_
            refine ca_dup2 h dX13_step_344 rfl rfl ?_
            refine oa_iald h (j := 2) rfl (hN.st.1 _ _ _ (by show _ ∧ _; omega)) rfl (by omega) (by decide) dX13_step_345 ?_
            refine ca_iconst h dX13_step_346 ik_1 ?_
            refine ca_iadd h dX13_step_347 ?_
            refine oa_iast h (j := 2) rfl (hN.st.1 _ _ _ (by show _ ∧ _; omega)) rfl (by omega) (by decide) dX13_step_348 ?_
            refine ca_iinc h dX13_step_349 rfl ik_1 rfl ?_
            rw [show nI j + 1 = nI (j + 1) from nI_1 _]
            refine ca_goto (tgt := 290) h dX13_step_352 (by decide) ?_
            refine ca_pick [1, 0] rfl ?_
            have hlt := o_lft hN.rn hjm (by rw [c_308]; decide)
            have g8 : k_cc nj ≤ 8 := by omega
            have ei : ∀ kd, kd ≠ 3 → kd ≠ 5 → kd ≠ 6 → k_idle nj j kd = nj kd := fun kd a b c => k_idle_ne a b c
            have e9 : kf s_fin (j + 1) n2 = k_cnt (k_idle nj j) 2 := by rw [kf_s, ← hnj]; unfold s_fin; rw [if_pos c_308, k_fin_eq, if_neg (fun z => (r_left hlt).mpr z c_327)]
            have z9 : k_cnt (k_idle nj j) 2 0 = nj 0 := (k_cnt_0 _ _).trans (ei 0 (by decide) (by decide) (by decide))
            have g9 : k_cc (k_idle nj j) ≤ 8 := by rw [k_cc_0 (ei 0 (by decide) (by decide) (by decide))]; exact g8
            refine ih_290 (j + 1) (by omega) S _ (up (r_end w j) (10 + 2) (r_end w j (10 + 2) + 1)) ?_ (o_fr_st (o_fr_st (o_fr_st (o_fr_st (o_fr_st (o_fr_st (hf))))))) (by rw [kf_s, ← hnj]; exact r_P_fin hPj)
            rw [e9]
            refine o_NW_mk hN.st (k_cc_0 z9) (k_mc_0 z9) (r_N_tot (r_N_end hN.rn hjm) (by decide)) (o_R_w (o_R_48 (o_R_mob (o_R_mob (o_R_mob (o_R_mob (o_R_mob (f := 6) hN.R (by decide)) (by decide)) (by decide)) (by decide)) (by decide)) (by decide)) (fun i hi => (up_n (by omega)).trans (o_endw (Or.inl rfl) (fun _ _ => rfl) i hi))) ?_
            exact o_A_tot (o_A_mob (o_A_mob (o_A_mob (o_A_mob (o_A_mob (o_A_n hN.A (ei 1 (by decide) (by decide) (by decide)) (ei 2 (by decide) (by decide) (by decide)) (ei 7 (by decide) (by decide) (by decide)) (k_cc_0 (ei 0 (by decide) (by decide) (by decide)))) g9) g9) g9) g9) g9) g9 (by decide) rfl
  refine ca_pick [1, 0] rfl ?_
  exact loop_290 (k_mc n) 0 (by omega) S μ w hN hf hP2
