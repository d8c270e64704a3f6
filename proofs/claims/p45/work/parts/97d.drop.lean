set_option maxHeartbeats 1000000 in
theorem c_stepC {X : ch_X} {E : ch_E} {n q : ch_N} {S S0 : ch_S} {μ μ0 : ch_M} (h : ch_H X E RX13 cX13_step 7) (hG : ch_G X 4 984 2112) (hR : ch_R X E none 984 2112 (o_PS none (k_tick (n, q)).1 S0 μ0)) {w : Nat → Int32} (hm12 : k_mc n ≤ 12) (hc8 : k_cc n ≤ 8) (hC : ¬ n 0 0 3 < 0 ∧ ¬ 100000 < n 0 0 3) (hck : ¬ 100000 < n 0 0 3 + 1) {n3 : ch_N} (hN : o_NW n3 w S μ) (hf : o_fr S0 μ0 S μ) (z3 : n3 0 = n 0) (hKG : k_G n) (hQ3 : o_Q n3) (hP3 : r_P n3 (k_mc n)) (e3 : k_t1 n = kf s_sv (k_cc n) (kf s_dr (k_mc n) n3)) : ch_W X E 7 S μ 96 768 355 [(0, .ref (S.1 16 22 0))] [] := by
  refine ca_iconst h dX13_step_355 ik_0 ?_
  refine ca_istore_n h dX13_step_356 rfl ?_
  have loop_357 : ∀ (jj j : Nat), j + jj = k_mc n → ∀ (S : ch_S) (μ : ch_M) (w : Nat → Int32) (hN : o_NW (kf s_dr j n3) w S μ) (hf : o_fr S0 μ0 S μ) (hPj : r_P (kf s_dr j n3) (k_mc n)), ch_W X E 7 S μ 96 768 357 [(0, .ref (S.1 16 22 0)), (1, .int (nI j))] [] := by
    intro jj
    induction jj with
    | zero =>
      intro j hn S μ w hN hf hPj
      have hn : j = k_mc n := by omega
      obtain ⟨nj, hnj⟩ : ∃ z, z = kf s_dr j n3 := ⟨_, rfl⟩
      rw [← hnj] at hN
      have e0j : nj 0 = n 0 := by rw [hnj]; exact (kf_0 s_dr_0 _ n3).trans z3
      have emm : k_mc nj = k_mc n := k_mc_0 e0j
      have ecc : k_cc nj = k_cc n := k_cc_0 e0j
      rw [← hnj] at hPj
      refine ca_iload_n h dX13_step_357 rfl ?_
      refine ca_aload_nr h dX13_step_358 rfl ?_
      refine gi_X13_60 h (hN.st.1 _ _ _ (by show _ ∧ _; omega)) dX13_step_359 ?_
      refine ca_top (y := nI (k_mc n)) (hN.many.trans (by rw [emm])) ?_
      refine ca_icmp_ge (tgt := 446) h dX13_step_362 (by decide) (fun c_362 => ?_) (fun c_362 => ?_)
      ·
        obtain ⟨n4, en4⟩ : ∃ z, z = kf s_dr (k_mc n) n3 := ⟨_, rfl⟩
        have hN : o_NW n4 w S μ := by rw [en4, ← hn, ← hnj]; exact hN
        have z4 : n4 0 = n 0 := by rw [en4]; exact (kf_0 s_dr_0 _ n3).trans z3
        refine ca_pick [0] rfl ?_
        exact c_stepD h hG hR hm12 hc8 hC hck hN hf z4 hKG (by rw [en4]; exact o_Q_rl hQ3 (o_rl_kf o_rl_dr _ _)) (by rw [e3, en4])
      · exact absurd c_362 (by rw [hn]; exact Int32.lt_irrefl)
    | succ jj ih_357 =>
      intro j hn S μ w hN hf hPj
      have hn1 : j < k_mc n := by omega
      obtain ⟨nj, hnj⟩ : ∃ z, z = kf s_dr j n3 := ⟨_, rfl⟩
      rw [← hnj] at hN
      have e0j : nj 0 = n 0 := by rw [hnj]; exact (kf_0 s_dr_0 _ n3).trans z3
      have emm : k_mc nj = k_mc n := k_mc_0 e0j
      have ecc : k_cc nj = k_cc n := k_cc_0 e0j
      rw [← hnj] at hPj
      have hjm : j < k_mc nj := by omega
      refine ca_iload_n h dX13_step_357 rfl ?_
      refine ca_aload_nr h dX13_step_358 rfl ?_
      refine gi_X13_60 h (hN.st.1 _ _ _ (by show _ ∧ _; omega)) dX13_step_359 ?_
      refine ca_top (y := nI (k_mc n)) (hN.many.trans (by rw [emm])) ?_
      refine ca_icmp_ge (tgt := 446) h dX13_step_362 (by decide) (fun c_362 => ?_) (fun c_362 => ?_)
      · exact absurd (nI_lt hn1 (by omega)) c_362
      ·
        refine ca_aload_nr h dX13_step_365 rfl ?_
        refine gr_X13_52 h (hN.st.1 _ _ _ (by show _ ∧ _; omega)) (hN.st.2.1 _ _ _ _ _ (by show _ ∧ _; omega) rfl) dX13_step_366 ?_
        show ch_W X E _ _ _ _ _ _ _ (.ref (S.1 16 25 0) :: _)
        refine ca_iload_n h dX13_step_369 rfl ?_
        refine oa_aald h (j := j) rfl (by decide) (hN.st.1 _ _ _ (by show _ ∧ _; omega)) rfl (by omega) (by decide) (hN.st.2.1 _ _ _ _ _ (by show _ ∧ _; omega) (o_rt25 (by omega))) dX13_step_370 ?_
        show ch_W X E _ _ _ _ _ _ _ (.ref (S.1 16 23 j) :: _)
        refine ca_astore_n h dX13_step_371 rfl ?_
        refine ca_aload_nr h dX13_step_372 rfl ?_
        refine gi_X13_88 h (hN.st.1 _ _ _ (by show _ ∧ _; omega)) dX13_step_373 ?_
        refine ca_top (y := nj 3 j 4) (hN.mf (f := 4) (by omega) (by decide)) ?_
        refine ca_iconst h dX13_step_376 ik_1 ?_
        refine ca_icmp_eq (tgt := 383) h dX13_step_377 (by decide) (fun c_377 => ?_) (fun c_377 => ?_)
        ·
          obtain ⟨s, hsc, h5⟩ := r_sv hN.rn hjm c_377
          have hp5 := hPj j hn1 c_377 s h5 (by omega)
          refine ca_aload_nr h dX13_step_383 rfl ?_
          refine ca_aload_nr h dX13_step_384 rfl ?_
          refine ca_aload_nr h dX13_step_385 rfl ?_
          refine gi_X13_91 h (hN.st.1 _ _ _ (by show _ ∧ _; omega)) dX13_step_386 ?_
          refine ca_top (y := nI s) ((hN.mf (f := 5) (by omega) (by decide)).trans h5) ?_
          refine oa_n h hG (host := "CellHandoverLaw") (List.mem_of_getElem? (i := 10) rfl) kw_743 ks_24 kw_25 kw_744 (n := 1) ⟨by decide, by decide, by decide +kernel⟩ (c_X12_average hN (c := s) hjm c_377 (by omega) hp5) (ci := 12) rfl rfl rfl (hN.st.1 _ _ _ (by show _ ∧ _; omega)) rfl rfl rfl rfl ⟨by omega, by omega⟩ rfl dX13_step_389 ?_
          refine ca_aload_nr h dX13_step_392 rfl ?_
          refine gi_X13_22 h (hN.st.1 _ _ _ (by show _ ∧ _; omega)) dX13_step_393 ?_
          refine ca_top (y := nj 0 0 8) (hN.hd (by decide)) ?_
          refine ca_icmp_ge (tgt := 408) h dX13_step_396 (by decide) (fun c_396 => ?_) (fun c_396 => ?_)
          ·
            refine ca_iconst h dX13_step_408 ik_0 ?_
            refine pi_X13_131 h (hN.st.1 _ _ _ (by show _ ∧ _; omega)) dX13_step_409 ?_
            have hbv : 0 = if k_avg nj j (nj 3 j 5) < nj 0 0 8 then nj 3 j 7 + 1 else 0 := by rw [h5, if_neg c_396]
            have g8 : k_cc nj ≤ 8 := by omega
            have hNb : o_NW (nw nj 3 j 7 0) (up w (210 + 91 * j + 7) 0) S (ch_st μ 16 23 j 7 0) := o_NW_mk hN.st (k_cc_0 (nw_k (by decide))) (k_mc_0 (nw_k (by decide))) (r_N_set hN.rn hjm (by omega) (fun z => by omega) (fun z => by omega)) (o_R_mob hN.R (by decide)) (o_A_mob (o_A_n hN.A (nw_k (by decide)) (nw_k (by decide)) (nw_k (by decide)) (k_cc_0 (nw_k (by decide)))) (by rw [k_cc_0 (nw_k (by decide))]; exact g8))
            refine ca_aload_nr h dX13_step_412 rfl ?_
            refine gi_X13_131 h (hN.st.1 _ _ _ (by show _ ∧ _; omega)) dX13_step_413 ?_
            refine ca_top (y := 0) (by rw [ch_st_at, if_pos ⟨rfl, rfl, rfl, rfl⟩]) ?_
            refine ca_aload_nr h dX13_step_416 rfl ?_
            refine gi_X13_25 h (hN.st.1 _ _ _ (by show _ ∧ _; omega)) dX13_step_417 ?_
            refine ca_top (y := nj 0 0 9) (by rw [ch_st_at, if_neg (by omega)]; exact hN.hd (by decide)) ?_
            refine ca_icmp_ge (tgt := 426) h dX13_step_420 (by decide) (fun c_420 => ?_) (fun c_420 => ?_)
            ·
              refine ca_aload_nr h dX13_step_426 rfl ?_
              refine oa_n h hG (host := "CellHandoverLaw") (List.mem_of_getElem? (i := 9) rfl) kw_738 ks_23 kw_25 kw_740 (n := 0) ⟨by decide, by decide, by decide +kernel⟩ (c_X12_endsM hN.st (m := j) hjm) (ci := 12) rfl rfl rfl (hN.st.1 _ _ _ (by show _ ∧ _; omega)) rfl rfl rfl rfl ⟨by omega, by omega⟩ rfl dX13_step_427 ?_
              refine ca_aload_nr h dX13_step_430 rfl ?_
              refine gr_X13_44 h (hN.st.1 _ _ _ (by show _ ∧ _; omega)) (hN.st.2.1 _ _ _ _ _ (by show _ ∧ _; omega) rfl) dX13_step_431 ?_
              show ch_W X E _ _ _ _ _ _ _ (.ref (S.1 16 48 32) :: _)
              refine ca_iconst h dX13_step_434 ik_3 ?_
              refine ca_dup2 h dX13_step_435 rfl rfl ?_
              refine oa_iald h (j := 3) rfl (hN.st.1 _ _ _ (by show _ ∧ _; omega)) rfl (by omega) (by decide) dX13_step_436 ?_
              refine ca_iconst h dX13_step_437 ik_1 ?_
              refine ca_iadd h dX13_step_438 ?_
              refine oa_iast h (j := 3) rfl (hN.st.1 _ _ _ (by show _ ∧ _; omega)) rfl (by omega) (by decide) dX13_step_439 ?_
              refine ca_iinc h dX13_step_440 rfl ik_1 rfl ?_
              rw [show nI j + 1 = nI (j + 1) from nI_1 _]
              refine ca_goto (tgt := 357) h dX13_step_443 (by decide) ?_
              refine ca_pick [2, 0] rfl ?_
              have ei : ∀ kd, kd ≠ 3 → kd ≠ 5 → kd ≠ 6 → k_idle nj j kd = nj kd := fun kd a b c => k_idle_ne a b c
              have e9 : kf s_dr (j + 1) n3 = k_cnt (k_idle nj j) 3 := by rw [kf_s, ← hnj]; unfold s_dr; rw [if_pos c_377, k_dr_eq _ _ _ hbv, if_neg c_420]
              have z9 : k_cnt (k_idle nj j) 3 0 = nj 0 := (k_cnt_0 _ _).trans (ei 0 (by decide) (by decide) (by decide))
              have g9 : k_cc (k_idle nj j) ≤ 8 := by rw [k_cc_0 (ei 0 (by decide) (by decide) (by decide))]; exact g8
              have hre : r_N (k_idle nj j) (r_end (up w (210 + 91 * j + 7) 0) j) := by
                rw [← k_idle_set (n := nj) (i := j) (f := 7) (v := 0) (Or.inr rfl)]
                exact r_N_end hNb.rn (by rw [k_mc_0 (nw_k (by decide))]; exact hjm)
              refine ih_357 (j + 1) (by omega) S _ (up (r_end (up w (210 + 91 * j + 7) 0) j) (10 + 3) (r_end (up w (210 + 91 * j + 7) 0) j (10 + 3) + 1)) ?_ (o_fr_st (o_fr_st (o_fr_st (o_fr_st (o_fr_st (o_fr_st (hf))))))) (by rw [kf_s, ← hnj]; exact r_P_dr hPj)
              rw [e9]
              refine o_NW_mk hN.st (k_cc_0 z9) (k_mc_0 z9) (r_N_tot hre (by decide)) (o_R_w (o_R_48 (o_R_mob (o_R_mob (o_R_mob (o_R_mob hNb.R (by decide)) (by decide)) (by decide)) (by decide)) (by decide)) (fun i hi => (up_n (by omega)).trans rfl)) ?_
              exact o_A_tot (o_A_mob (o_A_mob (o_A_mob (o_A_mob (o_A_n hNb.A ((ei 1 (by decide) (by decide) (by decide)).trans (nw_k (by decide)).symm) ((ei 2 (by decide) (by decide) (by decide)).trans (nw_k (by decide)).symm) ((ei 7 (by decide) (by decide) (by decide)).trans (nw_k (by decide)).symm) (k_cc_0 ((ei 0 (by decide) (by decide) (by decide)).trans (nw_k (by decide)).symm))) g9) g9) g9) g9) g9 (by decide) rfl
            ·
              refine ca_goto (tgt := 440) h dX13_step_423 (by decide) ?_
              refine ca_iinc h dX13_step_440 rfl ik_1 rfl ?_
              rw [show nI j + 1 = nI (j + 1) from nI_1 _]
              refine ca_goto (tgt := 357) h dX13_step_443 (by decide) ?_
              refine ca_pick [2, 0] rfl ?_
              have e9 : kf s_dr (j + 1) n3 = nw nj 3 j 7 0 := by rw [kf_s, ← hnj]; unfold s_dr; rw [if_pos c_377, k_dr_eq _ _ _ hbv, if_pos c_420]
              exact ih_357 (j + 1) (by omega) S _ _ (by rw [e9]; exact hNb) (o_fr_st (hf)) (by rw [kf_s, ← hnj]; exact r_P_dr hPj)
          ·
            refine ca_aload_nr h dX13_step_399 rfl ?_
            refine gi_X13_131 h (hN.st.1 _ _ _ (by show _ ∧ _; omega)) dX13_step_400 ?_
            refine ca_top (y := nj 3 j 7) ((hN.mw hjm (by decide)).trans ((hN.rn.2.2.2.2.1 j hjm).2.2.1 c_377).1) ?_
            refine ca_iconst h dX13_step_403 ik_1 ?_
            refine ca_iadd h dX13_step_404 ?_
            refine ca_goto (tgt := 409) h dX13_step_405 (by decide) ?_
            refine pi_X13_131 h (hN.st.1 _ _ _ (by show _ ∧ _; omega)) dX13_step_409 ?_
            have hbv : (nj 3 j 7 + 1) = if k_avg nj j (nj 3 j 5) < nj 0 0 8 then nj 3 j 7 + 1 else 0 := by rw [h5, if_pos c_396]
            have g8 : k_cc nj ≤ 8 := by omega
            have hNb : o_NW (nw nj 3 j 7 (nj 3 j 7 + 1)) (up w (210 + 91 * j + 7) (nj 3 j 7 + 1)) S (ch_st μ 16 23 j 7 (nj 3 j 7 + 1)) := o_NW_mk hN.st (k_cc_0 (nw_k (by decide))) (k_mc_0 (nw_k (by decide))) (r_N_set hN.rn hjm (by omega) (fun z => by omega) (fun z => by omega)) (o_R_mob hN.R (by decide)) (o_A_mob (o_A_n hN.A (nw_k (by decide)) (nw_k (by decide)) (nw_k (by decide)) (k_cc_0 (nw_k (by decide)))) (by rw [k_cc_0 (nw_k (by decide))]; exact g8))
            refine ca_aload_nr h dX13_step_412 rfl ?_
            refine gi_X13_131 h (hN.st.1 _ _ _ (by show _ ∧ _; omega)) dX13_step_413 ?_
            refine ca_top (y := (nj 3 j 7 + 1)) (by rw [ch_st_at, if_pos ⟨rfl, rfl, rfl, rfl⟩]) ?_
            refine ca_aload_nr h dX13_step_416 rfl ?_
            refine gi_X13_25 h (hN.st.1 _ _ _ (by show _ ∧ _; omega)) dX13_step_417 ?_
            refine ca_top (y := nj 0 0 9) (by rw [ch_st_at, if_neg (by omega)]; exact hN.hd (by decide)) ?_
            refine ca_icmp_ge (tgt := 426) h dX13_step_420 (by decide) (fun c_420 => ?_) (fun c_420 => ?_)
            ·
              refine ca_aload_nr h dX13_step_426 rfl ?_
              refine oa_n h hG (host := "CellHandoverLaw") (List.mem_of_getElem? (i := 9) rfl) kw_738 ks_23 kw_25 kw_740 (n := 0) ⟨by decide, by decide, by decide +kernel⟩ (c_X12_endsM hN.st (m := j) hjm) (ci := 12) rfl rfl rfl (hN.st.1 _ _ _ (by show _ ∧ _; omega)) rfl rfl rfl rfl ⟨by omega, by omega⟩ rfl dX13_step_427 ?_
              refine ca_aload_nr h dX13_step_430 rfl ?_
              refine gr_X13_44 h (hN.st.1 _ _ _ (by show _ ∧ _; omega)) (hN.st.2.1 _ _ _ _ _ (by show _ ∧ _; omega) rfl) dX13_step_431 ?_
              show ch_W X E _ _ _ _ _ _ _ (.ref (S.1 16 48 32) :: _)
              refine ca_iconst h dX13_step_434 ik_3 ?_
              refine ca_dup2 h dX13_step_435 rfl rfl ?_
              refine oa_iald h (j := 3) rfl (hN.st.1 _ _ _ (by show _ ∧ _; omega)) rfl (by omega) (by decide) dX13_step_436 ?_
              refine ca_iconst h dX13_step_437 ik_1 ?_
              refine ca_iadd h dX13_step_438 ?_
              refine oa_iast h (j := 3) rfl (hN.st.1 _ _ _ (by show _ ∧ _; omega)) rfl (by omega) (by decide) dX13_step_439 ?_
              refine ca_iinc h dX13_step_440 rfl ik_1 rfl ?_
              rw [show nI j + 1 = nI (j + 1) from nI_1 _]
              refine ca_goto (tgt := 357) h dX13_step_443 (by decide) ?_
              refine ca_pick [2, 0] rfl ?_
              have ei : ∀ kd, kd ≠ 3 → kd ≠ 5 → kd ≠ 6 → k_idle nj j kd = nj kd := fun kd a b c => k_idle_ne a b c
              have e9 : kf s_dr (j + 1) n3 = k_cnt (k_idle nj j) 3 := by rw [kf_s, ← hnj]; unfold s_dr; rw [if_pos c_377, k_dr_eq _ _ _ hbv, if_neg c_420]
              have z9 : k_cnt (k_idle nj j) 3 0 = nj 0 := (k_cnt_0 _ _).trans (ei 0 (by decide) (by decide) (by decide))
              have g9 : k_cc (k_idle nj j) ≤ 8 := by rw [k_cc_0 (ei 0 (by decide) (by decide) (by decide))]; exact g8
              have hre : r_N (k_idle nj j) (r_end (up w (210 + 91 * j + 7) (nj 3 j 7 + 1)) j) := by
                rw [← k_idle_set (n := nj) (i := j) (f := 7) (v := (nj 3 j 7 + 1)) (Or.inr rfl)]
                exact r_N_end hNb.rn (by rw [k_mc_0 (nw_k (by decide))]; exact hjm)
              refine ih_357 (j + 1) (by omega) S _ (up (r_end (up w (210 + 91 * j + 7) (nj 3 j 7 + 1)) j) (10 + 3) (r_end (up w (210 + 91 * j + 7) (nj 3 j 7 + 1)) j (10 + 3) + 1)) ?_ (o_fr_st (o_fr_st (o_fr_st (o_fr_st (o_fr_st (o_fr_st (hf))))))) (by rw [kf_s, ← hnj]; exact r_P_dr hPj)
              rw [e9]
              refine o_NW_mk hN.st (k_cc_0 z9) (k_mc_0 z9) (r_N_tot hre (by decide)) (o_R_w (o_R_48 (o_R_mob (o_R_mob (o_R_mob (o_R_mob hNb.R (by decide)) (by decide)) (by decide)) (by decide)) (by decide)) (fun i hi => (up_n (by omega)).trans rfl)) ?_
              exact o_A_tot (o_A_mob (o_A_mob (o_A_mob (o_A_mob (o_A_n hNb.A ((ei 1 (by decide) (by decide) (by decide)).trans (nw_k (by decide)).symm) ((ei 2 (by decide) (by decide) (by decide)).trans (nw_k (by decide)).symm) ((ei 7 (by decide) (by decide) (by decide)).trans (nw_k (by decide)).symm) (k_cc_0 ((ei 0 (by decide) (by decide) (by decide)).trans (nw_k (by decide)).symm))) g9) g9) g9) g9) g9 (by decide) rfl
            ·
              refine ca_goto (tgt := 440) h dX13_step_423 (by decide) ?_
              refine ca_iinc h dX13_step_440 rfl ik_1 rfl ?_
              rw [show nI j + 1 = nI (j + 1) from nI_1 _]
              refine ca_goto (tgt := 357) h dX13_step_443 (by decide) ?_
              refine ca_pick [2, 0] rfl ?_
              have e9 : kf s_dr (j + 1) n3 = nw nj 3 j 7 (nj 3 j 7 + 1) := by rw [kf_s, ← hnj]; unfold s_dr; rw [if_pos c_377, k_dr_eq _ _ _ hbv, if_pos c_420]
              exact ih_357 (j + 1) (by omega) S _ _ (by rw [e9]; exact hNb) (o_fr_st (hf)) (by rw [kf_s, ← hnj]; exact r_P_dr hPj)
        ·
          refine ca_goto (tgt := 440) h dX13_step_380 (by decide) ?_
          refine ca_iinc h dX13_step_440 rfl ik_1 rfl ?_
          rw [show nI j + 1 = nI (j + 1) from nI_1 _]
          refine ca_goto (tgt := 357) h dX13_step_443 (by decide) ?_
          refine ca_pick [2, 0] rfl ?_
          have e9 : kf s_dr (j + 1) n3 = nj := by rw [kf_s, ← hnj]; unfold s_dr; rw [if_neg c_377]
          exact ih_357 (j + 1) (by omega) S μ w (by rw [e9]; exact hN) hf (by rw [kf_s, ← hnj]; exact r_P_dr hPj)
  refine ca_pick [1, 0] rfl ?_
  exact loop_357 (k_mc n) 0 (by omega) S μ w hN hf hP3
