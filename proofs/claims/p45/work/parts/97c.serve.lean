set_option maxHeartbeats 1000000 in
theorem c_stepD {X : ch_X} {E : ch_E} {n q : ch_N} {S S0 : ch_S} {μ μ0 : ch_M} (h : ch_H X E RX13 cX13_step 7) (hG : ch_G X 4 984 2112) (hR : ch_R X E none 984 2112 (o_PS none (k_tick (n, q)).1 S0 μ0)) {w : Nat → Int32} (hm12 : k_mc n ≤ 12) (hc8 : k_cc n ≤ 8) (hC : ¬ n 0 0 3 < 0 ∧ ¬ 100000 < n 0 0 3) (hck : ¬ 100000 < n 0 0 3 + 1) {n4 : ch_N} (hN : o_NW n4 w S μ) (hf : o_fr S0 μ0 S μ) (z4 : n4 0 = n 0) (hKG : k_G n) (hQ4 : o_Q n4) (e4 : k_t1 n = kf s_sv (k_cc n) n4) : ch_W X E 7 S μ 96 768 446 [(0, .ref (S.1 16 22 0))] [] := by
  refine ca_iconst h dX13_step_446 ik_0 ?_
  refine ca_istore_n h dX13_step_447 rfl ?_
  have loop_448 : ∀ (jj j : Nat), j + jj = k_cc n → ∀ (S : ch_S) (μ : ch_M) (w : Nat → Int32) (hN : o_NW (kf s_sv j n4) w S μ) (hf : o_fr S0 μ0 S μ) (hQj : o_Q (kf s_sv j n4)), ch_W X E 7 S μ (96 + 108 * j) (768 + 144 * j) 448 [(0, .ref (S.1 16 22 0)), (1, .int (nI j))] [] := by
    intro jj
    induction jj with
    | zero =>
      intro j hn S μ w hN hf hQj
      have hn : j = k_cc n := by omega
      obtain ⟨nj, hnj⟩ : ∃ z, z = kf s_sv j n4 := ⟨_, rfl⟩
      rw [← hnj] at hN
      have e0j : nj 0 = n 0 := by rw [hnj]; exact (kf_0 (fun c n => k_svL_0 (nI c) 12 n) _ n4).trans z4
      have emm : k_mc nj = k_mc n := k_mc_0 e0j
      have ecc : k_cc nj = k_cc n := k_cc_0 e0j
      rw [← hnj] at hQj
      refine ca_iload_n h dX13_step_448 rfl ?_
      refine ca_aload_nr h dX13_step_449 rfl ?_
      refine gi_X13_57 h (hN.st.1 _ _ _ (by show _ ∧ _; omega)) dX13_step_450 ?_
      refine ca_top (y := nI (k_cc n)) (hN.cells.trans (by rw [ecc])) ?_
      refine ca_icmp_ge (tgt := 531) h dX13_step_453 (by decide) (fun c_453 => ?_) (fun c_453 => ?_)
      ·
        obtain ⟨n5, en5⟩ : ∃ z, z = kf s_sv (k_cc n) n4 := ⟨_, rfl⟩
        have hN : o_NW n5 w S μ := by rw [en5, ← hn, ← hnj]; exact hN
        have z5 : n5 0 = n 0 := by rw [en5]; exact (kf_0 (fun c n => k_svL_0 (nI c) 12 n) _ n4).trans z4
        have eT1 : k_t1 n = n5 := by rw [e4, en5]
        have hK5 : k_G n5 := by rw [← eT1]; exact G_t1 hKG
        refine ca_widen (k := 960) (n := 1920) (by omega) (by omega) ?_
        refine ca_pick [0] rfl ?_
        exact c_stepE h hG hR hm12 hc8 hC hck hN hf z5 hK5 eT1
      · exact absurd c_453 (by rw [hn]; exact Int32.lt_irrefl)
    | succ jj ih_448 =>
      intro j hn S μ w hN hf hQj
      have hn1 : j < k_cc n := by omega
      obtain ⟨nj, hnj⟩ : ∃ z, z = kf s_sv j n4 := ⟨_, rfl⟩
      rw [← hnj] at hN
      have e0j : nj 0 = n 0 := by rw [hnj]; exact (kf_0 (fun c n => k_svL_0 (nI c) 12 n) _ n4).trans z4
      have emm : k_mc nj = k_mc n := k_mc_0 e0j
      have ecc : k_cc nj = k_cc n := k_cc_0 e0j
      rw [← hnj] at hQj
      refine ca_iload_n h dX13_step_448 rfl ?_
      refine ca_aload_nr h dX13_step_449 rfl ?_
      refine gi_X13_57 h (hN.st.1 _ _ _ (by show _ ∧ _; omega)) dX13_step_450 ?_
      refine ca_top (y := nI (k_cc n)) (hN.cells.trans (by rw [ecc])) ?_
      refine ca_icmp_ge (tgt := 531) h dX13_step_453 (by decide) (fun c_453 => ?_) (fun c_453 => ?_)
      · exact absurd (nI_lt hn1 (by omega)) c_453
      ·
        have loop_456 : ∀ (jj i : Nat), i + jj = 12 → ∀ (S : ch_S) (μ : ch_M) (w : Nat → Int32) (m1 : ch_N) (hN : o_NW m1 w S μ) (hf : o_fr S0 μ0 S μ) (e0m : m1 0 = nj 0) (hQm : o_Q m1) (hrc : r_rc m1 (nI j) ≤ jj) (heq : k_svL (nI j) 12 nj = k_svL (nI j) jj m1), ch_W X E 7 S μ (96 + 108 * j + 9 * i) (768 + 144 * j + 12 * i) 456 [(0, .ref (S.1 16 22 0)), (1, .int (nI j))] [] := by
          intro jj
          induction jj with
          | zero =>
            intro i hn S μ w m1 hN hf e0m hQm hrc heq
            have hn : i = 12 := by omega
            have emm1 : k_mc m1 = k_mc n := (k_mc_0 e0m).trans emm
            have ecm1 : k_cc m1 = k_cc n := (k_cc_0 e0m).trans ecc
            refine ca_aload_nr h dX13_step_456 rfl ?_
            refine ca_iload_n h dX13_step_457 rfl ?_
            refine oa_v h hG ml_X13_117 (c_X13_free hN (c := j) (by omega)) (ci := 13) rfl rfl rfl (hN.st.1 _ _ _ (by show _ ∧ _; omega)) rfl rfl rfl rfl ⟨by omega, by omega⟩ rfl dX13_step_458 ?_
            refine ca_if_eq (tgt := 525) h dX13_step_461 (by decide) (fun c_461 => ?_) (fun c_461 => ?_)
            ·
              refine ca_iinc h dX13_step_525 rfl ik_1 rfl ?_
              rw [show nI j + 1 = nI (j + 1) from nI_1 _]
              refine ca_goto (tgt := 448) h dX13_step_528 (by decide) ?_
              refine ca_pick [1, 0] rfl ?_
              have e9 : k_svL (nI j) 12 nj = m1 := by
                rw [heq]
                first
                  | (show (if k_free m1 (nI j) = true then (if k_qm m1 (nI j) 0 = -1 then m1 else k_svL (nI j) jj (k_sv m1 (k_ix 12 12 (k_qm m1 (nI j) 0)) (nI j))) else m1) = m1; rw [if_neg (fun z => bI_n0.mpr z c_461)])
                  | rfl
              refine ca_widen (k := 96 + 108 * (j + 1)) (n := 768 + 144 * (j + 1)) (by omega) (by omega) ?_
              exact ih_448 (j + 1) (by omega) S μ w (by rw [kf_s, ← hnj]; show o_NW (k_svL (nI j) 12 nj) _ _ _; rw [e9]; exact hN) hf (by rw [kf_s, ← hnj]; show o_Q (k_svL (nI j) 12 nj); rw [e9]; exact hQm)
            ·
              refine ca_aload_nr h dX13_step_464 rfl ?_
              refine ca_iload_n h dX13_step_465 rfl ?_
              refine oa_v h hG ml_X13_99 (c_X13_waits hN) (ci := 13) rfl rfl rfl (hN.st.1 _ _ _ (by show _ ∧ _; omega)) rfl rfl rfl rfl ⟨by omega, by omega⟩ rfl dX13_step_466 ?_
              refine ca_if_le (tgt := 525) h dX13_step_469 (by decide) (fun c_469 => ?_) (fun c_469 => ?_)
              ·
                refine ca_iinc h dX13_step_525 rfl ik_1 rfl ?_
                rw [show nI j + 1 = nI (j + 1) from nI_1 _]
                refine ca_goto (tgt := 448) h dX13_step_528 (by decide) ?_
                refine ca_pick [1, 0] rfl ?_
                have e9 : k_svL (nI j) 12 nj = m1 := by
                  rw [heq]
                  have hz : k_qm m1 (nI j) 0 = -1 := by
                    rcases r_q0 hN.m12 (nI j) with ⟨z, -⟩ | ⟨m, -, -, -, z⟩
                    · exact z
                    · exact absurd (nI_lt (a := 0) z (by have := r_cn_le (fun i => decide (m1 3 i 8 = nI j)) (k_mc m1); have := hN.m12; unfold r_rc; omega)) (by rw [k_rq_c] at c_469; exact c_469)
                  first
                    | (show (if k_free m1 (nI j) = true then (if k_qm m1 (nI j) 0 = -1 then m1 else k_svL (nI j) jj (k_sv m1 (k_ix 12 12 (k_qm m1 (nI j) 0)) (nI j))) else m1) = m1; rw [if_pos hz]; split <;> rfl)
                    | rfl
                refine ca_widen (k := 96 + 108 * (j + 1)) (n := 768 + 144 * (j + 1)) (by omega) (by omega) ?_
                exact ih_448 (j + 1) (by omega) S μ w (by rw [kf_s, ← hnj]; show o_NW (k_svL (nI j) 12 nj) _ _ _; rw [e9]; exact hN) hf (by rw [kf_s, ← hnj]; show o_Q (k_svL (nI j) 12 nj); rw [e9]; exact hQm)
              · exact absurd c_469 (by rw [k_rq_c, Nat.le_zero.mp hrc]; decide)
          | succ jj ih_456 =>
            intro i hn S μ w m1 hN hf e0m hQm hrc heq
            have hn1 : i < 12 := by omega
            have emm1 : k_mc m1 = k_mc n := (k_mc_0 e0m).trans emm
            have ecm1 : k_cc m1 = k_cc n := (k_cc_0 e0m).trans ecc
            refine ca_aload_nr h dX13_step_456 rfl ?_
            refine ca_iload_n h dX13_step_457 rfl ?_
            refine oa_v h hG ml_X13_117 (c_X13_free hN (c := j) (by omega)) (ci := 13) rfl rfl rfl (hN.st.1 _ _ _ (by show _ ∧ _; omega)) rfl rfl rfl rfl ⟨by omega, by omega⟩ rfl dX13_step_458 ?_
            refine ca_if_eq (tgt := 525) h dX13_step_461 (by decide) (fun c_461 => ?_) (fun c_461 => ?_)
            ·
              refine ca_iinc h dX13_step_525 rfl ik_1 rfl ?_
              rw [show nI j + 1 = nI (j + 1) from nI_1 _]
              refine ca_goto (tgt := 448) h dX13_step_528 (by decide) ?_
              refine ca_pick [1, 0] rfl ?_
              have e9 : k_svL (nI j) 12 nj = m1 := by
                rw [heq]
                first
                  | (show (if k_free m1 (nI j) = true then (if k_qm m1 (nI j) 0 = -1 then m1 else k_svL (nI j) jj (k_sv m1 (k_ix 12 12 (k_qm m1 (nI j) 0)) (nI j))) else m1) = m1; rw [if_neg (fun z => bI_n0.mpr z c_461)])
                  | rfl
              refine ca_widen (k := 96 + 108 * (j + 1)) (n := 768 + 144 * (j + 1)) (by omega) (by omega) ?_
              exact ih_448 (j + 1) (by omega) S μ w (by rw [kf_s, ← hnj]; show o_NW (k_svL (nI j) 12 nj) _ _ _; rw [e9]; exact hN) hf (by rw [kf_s, ← hnj]; show o_Q (k_svL (nI j) 12 nj); rw [e9]; exact hQm)
            ·
              refine ca_aload_nr h dX13_step_464 rfl ?_
              refine ca_iload_n h dX13_step_465 rfl ?_
              refine oa_v h hG ml_X13_99 (c_X13_waits hN) (ci := 13) rfl rfl rfl (hN.st.1 _ _ _ (by show _ ∧ _; omega)) rfl rfl rfl rfl ⟨by omega, by omega⟩ rfl dX13_step_466 ?_
              refine ca_if_le (tgt := 525) h dX13_step_469 (by decide) (fun c_469 => ?_) (fun c_469 => ?_)
              ·
                refine ca_iinc h dX13_step_525 rfl ik_1 rfl ?_
                rw [show nI j + 1 = nI (j + 1) from nI_1 _]
                refine ca_goto (tgt := 448) h dX13_step_528 (by decide) ?_
                refine ca_pick [1, 0] rfl ?_
                have e9 : k_svL (nI j) 12 nj = m1 := by
                  rw [heq]
                  have hz : k_qm m1 (nI j) 0 = -1 := by
                    rcases r_q0 hN.m12 (nI j) with ⟨z, -⟩ | ⟨m, -, -, -, z⟩
                    · exact z
                    · exact absurd (nI_lt (a := 0) z (by have := r_cn_le (fun i => decide (m1 3 i 8 = nI j)) (k_mc m1); have := hN.m12; unfold r_rc; omega)) (by rw [k_rq_c] at c_469; exact c_469)
                  first
                    | (show (if k_free m1 (nI j) = true then (if k_qm m1 (nI j) 0 = -1 then m1 else k_svL (nI j) jj (k_sv m1 (k_ix 12 12 (k_qm m1 (nI j) 0)) (nI j))) else m1) = m1; rw [if_pos hz]; split <;> rfl)
                    | rfl
                refine ca_widen (k := 96 + 108 * (j + 1)) (n := 768 + 144 * (j + 1)) (by omega) (by omega) ?_
                exact ih_448 (j + 1) (by omega) S μ w (by rw [kf_s, ← hnj]; show o_NW (k_svL (nI j) 12 nj) _ _ _; rw [e9]; exact hN) hf (by rw [kf_s, ← hnj]; show o_Q (k_svL (nI j) 12 nj); rw [e9]; exact hQm)
              ·
                have h0W : 0 < o_W m1 j := by rw [o_W_rq] at c_469; rcases Nat.eq_zero_or_pos (o_W m1 j) with z | z; (· rw [z] at c_469; exact absurd c_469 (by decide)); (· exact z)
                refine ca_aload_nr h dX13_step_472 rfl ?_
                refine ca_iload_n h dX13_step_473 rfl ?_
                refine oa_V h hG ml_X13_160 (c_X13_queue hN hQm.age (c := j) (by omega)) (ci := 13) rfl rfl rfl (hN.st.1 _ _ _ (by show _ ∧ _; omega)) rfl rfl rfl rfl ⟨by omega, by omega⟩ rfl dX13_step_474 ?_
                intro v S1 μ1 hp
                obtain ⟨rfl, hf1, ⟨w1, hN1⟩, hv17, hel⟩ := hp
                rw [← hf1.2.1.1]
                have hf := o_fr_tr hf hf1
                clear hN
                obtain ⟨S, rfl⟩ : ∃ z, z = S1 := ⟨_, rfl⟩
                obtain ⟨μ, rfl⟩ : ∃ z, z = μ1 := ⟨_, rfl⟩
                obtain ⟨w, rfl⟩ : ∃ z, z = w1 := ⟨_, rfl⟩
                have hN := hN1
                show ch_W X E 7 S μ _ _ _ _ (.ref (S.1 17 (o_W m1 j + 40) 0) :: _)
                obtain ⟨m, hmm, eq, e8⟩ : ∃ m, m < k_mc m1 ∧ k_qm m1 (nI j) 0 = nI m ∧ m1 3 m 8 = nI j := by
                  rcases r_q0 hN.m12 (nI j) with ⟨-, z⟩ | ⟨m, hm, eq, e8, -⟩
                  · exact absurd c_469 (by rw [k_rq_c, z]; decide)
                  · exact ⟨m, hm, eq, e8⟩
                have hWm := o_W_le m1 j
                have h910 := (hN.rn.2.2.2.2.1 m hmm).2.2.2.1 (by rw [e8]; exact nI_nm1 (by omega))
                refine ca_iconst h dX13_step_477 ik_0 ?_
                refine oa_ialdN h (j := 0) (ch_kdn _) hv17 rfl (by omega) (by omega) dX13_step_478 ?_
                refine ca_top (y := nI m) ((hel h0W).trans eq) ?_
                refine ca_istore_n h dX13_step_479 rfl ?_
                refine ca_aload_nr h dX13_step_480 rfl ?_
                refine gr_X13_44 h (hN.st.1 _ _ _ (by show _ ∧ _; omega)) (hN.st.2.1 _ _ _ _ _ (by show _ ∧ _; omega) rfl) dX13_step_481 ?_
                show ch_W X E _ _ _ _ _ _ _ (.ref (S.1 16 48 32) :: _)
                refine ca_bipush h dX13_step_484 bk_6 ?_
                refine ca_dup2 h dX13_step_486 rfl rfl ?_
                refine oa_iald h (j := 6) rfl (hN.st.1 _ _ _ (by show _ ∧ _; omega)) rfl (by omega) (by decide) dX13_step_487 ?_
                refine ca_iconst h dX13_step_488 ik_1 ?_
                refine ca_iadd h dX13_step_489 ?_
                refine oa_iast h (j := 6) rfl (hN.st.1 _ _ _ (by show _ ∧ _; omega)) rfl (by omega) (by decide) dX13_step_490 ?_
                have hN6 : o_NW (k_cnt m1 6) (up w (10 + 6) (w (10 + 6) + 1)) S (ch_st μ 16 48 32 6 (μ 16 48 32 6 + 1)) := o_NW_mk hN.st (k_cc_0 (k_cnt_0 _ _)) (k_mc_0 (k_cnt_0 _ _)) (r_N_tot (t := 6) hN.rn (by decide)) (o_R_w (o_R_48 hN.R (by decide)) (fun i hi => up_n (by omega))) (o_A_tot hN.A (by omega) (by decide) rfl)
                refine ca_aload_nr h dX13_step_491 rfl ?_
                refine gr_X13_52 h (hN.st.1 _ _ _ (by show _ ∧ _; omega)) (hN.st.2.1 _ _ _ _ _ (by show _ ∧ _; omega) rfl) dX13_step_492 ?_
                show ch_W X E _ _ _ _ _ _ _ (.ref (S.1 16 25 0) :: _)
                refine ca_iload_n h dX13_step_495 rfl ?_
                refine oa_aald h (j := m) rfl (by decide) (hN.st.1 _ _ _ (by show _ ∧ _; omega)) rfl (by omega) (by decide) (hN.st.2.1 _ _ _ _ _ (by show _ ∧ _; omega) (o_rt25 (by omega))) dX13_step_496 ?_
                show ch_W X E _ _ _ _ _ _ _ (.ref (S.1 16 23 m) :: _)
                refine gi_X13_102 h (hN.st.1 _ _ _ (by show _ ∧ _; omega)) dX13_step_497 ?_
                refine ca_top (y := (if m1 3 m 4 = 1 then 0 else 1)) (by rw [ch_st_at, if_neg (by omega)]; exact (hN.mw hmm (by decide)).trans h910.2) ?_
                refine ca_if_ne (tgt := 512) h dX13_step_500 (by decide) (fun c_500 => ?_) (fun c_500 => ?_)
                ·
                  have ht : ¬ m1 3 m 4 = 1 := fun z => by rw [if_pos z] at c_500; exact c_500 rfl
                  refine ca_aload_nr h dX13_step_512 rfl ?_
                  refine gr_X13_52 h (hN.st.1 _ _ _ (by show _ ∧ _; omega)) (hN.st.2.1 _ _ _ _ _ (by show _ ∧ _; omega) rfl) dX13_step_513 ?_
                  show ch_W X E _ _ _ _ _ _ _ (.ref (S.1 16 25 0) :: _)
                  refine ca_iload_n h dX13_step_516 rfl ?_
                  refine oa_aald h (j := m) rfl (by decide) (hN.st.1 _ _ _ (by show _ ∧ _; omega)) rfl (by omega) (by decide) (hN.st.2.1 _ _ _ _ _ (by show _ ∧ _; omega) (o_rt25 (by omega))) dX13_step_517 ?_
                  show ch_W X E _ _ _ _ _ _ _ (.ref (S.1 16 23 m) :: _)
                  refine ca_iload_n h dX13_step_518 rfl ?_
                  refine oa_N h hG (host := "CellHandoverLaw") (List.mem_of_getElem? (i := 11) rfl) kw_767 ks_30 kw_25 kw_768 (n := 1) ⟨by decide, by decide, by decide +kernel⟩ (c_X12_begins (S := S) (μ := (ch_st μ 16 48 32 6 (μ 16 48 32 6 + 1))) hN6.st hN6.R (m := m) (by rw [k_mc_0 (k_cnt_0 _ _)]; exact hmm)) (ci := 12) rfl rfl rfl (hN.st.1 _ _ _ (by show _ ∧ _; omega)) rfl rfl rfl rfl ⟨by omega, by omega⟩ rfl dX13_step_519 ?_
                  intro v S1 μ1 hp
                  obtain ⟨rfl, hf1, hst1, hO1, h48, h22⟩ := hp
                  rw [← hf1.2.1.1]
                  have hf := o_fr_tr (o_fr_st hf) hf1
                  have hl6 := o_lft hN.rn hmm (by intro z; exact absurd ((hN.rn.2.2.2.2.1 m hmm).2.2.2.2.2.2.2.1 z) (by rw [e8]; exact nI_nm1 (by omega)))
                  have hr3 : r_N (k_beg (k_cnt m1 6) m (nI j)) (r_beg (up w (10 + 6) (w (10 + 6) + 1)) m (nI j)) := r_N_beg hN6.rn (by rw [k_mc_0 (k_cnt_0 _ _)]; exact hmm) (by rw [k_cc_0 (k_cnt_0 _ _)]; omega) (by rw [k_cnt_3]; exact hl6)
                  have x0 : k_beg (k_cnt m1 6) m (nI j) 0 = k_cnt m1 6 0 := k_beg_ne (by decide) (by decide) (by decide)
                  have hc86 : k_cc (k_cnt m1 6) ≤ 8 := hN6.c8
                  have hN3 := o_NW_mk hst1 (k_cc_0 x0) (k_mc_0 x0) hr3 hO1 (o_A_m (o_A_n hN6.A (k_beg_ne (by decide) (by decide) (by decide)) (k_beg_ne (by decide) (by decide) (by decide)) (k_beg_ne (by decide) (by decide) (by decide)) (k_cc_0 x0)) (by rw [k_cc_0 x0]; exact hc86) h48)
                  obtain ⟨S, rfl⟩ : ∃ z, z = S1 := ⟨_, rfl⟩
                  show ch_W X E 7 S _ _ _ _ _ []
                  refine ca_goto (tgt := 456) h dX13_step_522 (by decide) ?_
                  refine ca_pick [1, 2] rfl ?_
                  have e9 : k_sv m1 m (nI j) = k_beg (k_cnt m1 6) m (nI j) := by rw [k_sv_eq, if_neg ht]
                  have er := r_rc_sv hmm (show j < 8 by omega) e8
                  refine ca_widen (k := (96 + 108 * j + 9 * (i + 1))) (n := (768 + 144 * j + 12 * (i + 1))) (by omega) (by omega) ?_
                  exact ih_456 (i + 1) (by omega) S _ _ (k_sv m1 m (nI j)) (by rw [e9]; exact hN3) hf ((k_sv_0 _ _ _).trans e0m) (o_Q_rl hQm (o_rl_sv _ _ _)) (by omega) (by rw [heq, k_svL_s (bI_n0.mp c_461) eq (by omega)])
                ·
                  have ht : m1 3 m 4 = 1 := Classical.byContradiction fun z => by rw [if_neg z] at c_500; exact absurd c_500 (by decide)
                  obtain ⟨s, hsc, h5⟩ := r_sv hN.rn hmm ht
                  have hrel : ¬ m1 2 (8 * s + j) 0 = 0 := by have y := (hN.rn.2.2.2.2.1 m hmm).2.2.2.2.2.2.2.2.2.2.2.1 ht j (by omega) e8; rw [h5, r_rx (by omega) (by omega)] at y; exact y
                  refine ca_aload_nr h dX13_step_503 rfl ?_
                  refine ca_iload_n h dX13_step_504 rfl ?_
                  refine ca_iload_n h dX13_step_505 rfl ?_
                  refine oa_V h hG ml_X13_144 (c_X13_hands hN6 (m := m) (by rw [k_mc_0 (k_cnt_0 _ _)]; exact hmm) (by rw [k_cnt_3]; exact ht) (s := s) (t := j) (by rw [k_cc_0 (k_cnt_0 _ _)]; exact hsc) (by rw [k_cnt_3]; exact h5) (by rw [k_cc_0 (k_cnt_0 _ _)]; omega) (by rw [show k_cnt m1 6 2 = m1 2 from nw_k (by decide)]; exact hrel)) (ci := 13) rfl rfl rfl (hN.st.1 _ _ _ (by show _ ∧ _; omega)) rfl rfl rfl rfl ⟨by omega, by omega⟩ rfl dX13_step_506 ?_
                  intro v S1 μ1 hp
                  obtain ⟨rfl, rfl, h16, w3, hN3⟩ := hp
                  obtain ⟨S, rfl⟩ : ∃ z, z = S1 := ⟨_, rfl⟩
                  replace h16 := fun k hk => (h16 k hk).trans (o_st_x (μ := μ) (kd := 48) (i := 32) (j := 6) (v := μ 16 48 32 6 + 1) hk)
                  show ch_W X E 7 _ _ _ _ _ _ []
                  refine ca_goto (tgt := 522) h dX13_step_509 (by decide) ?_
                  refine ca_goto (tgt := 456) h dX13_step_522 (by decide) ?_
                  refine ca_pick [1, 2] rfl ?_
                  have e9 : k_sv m1 m (nI j) = k_ho (k_cnt m1 6) m (nI j) := by rw [k_sv_eq, if_pos ht]
                  have er := r_rc_sv hmm (show j < 8 by omega) e8
                  refine ca_widen (k := (96 + 108 * j + 9 * (i + 1))) (n := (768 + 144 * j + 12 * (i + 1))) (by omega) (by omega) ?_
                  exact ih_456 (i + 1) (by omega) S _ _ (k_sv m1 m (nI j)) (by rw [e9]; exact hN3) (o_fr_tr hf (o_fr_16 h16)) ((k_sv_0 _ _ _).trans e0m) (o_Q_rl hQm (o_rl_sv _ _ _)) (by omega) (by rw [heq, k_svL_s (bI_n0.mp c_461) eq (by omega)])
        refine ca_pick [0, 1] rfl ?_
        exact loop_456 12 0 (by omega) S μ w nj hN hf rfl hQj (by have := r_cn_le (fun i => decide (nj 3 i 8 = nI j)) (k_mc nj); have := hN.m12; unfold r_rc; omega) rfl
  refine ca_pick [1, 0] rfl ?_
  exact loop_448 (k_cc n) 0 (by omega) S μ w hN hf hQ4
