set_option maxHeartbeats 1000000 in
theorem c_stepE {X : ch_X} {E : ch_E} {n q : ch_N} {S S0 : ch_S} {μ μ0 : ch_M} (h : ch_H X E RX13 cX13_step 7) (hG : ch_G X 4 984 2112) (hR : ch_R X E none 984 2112 (o_PS none (k_tick (n, q)).1 S0 μ0)) {w : Nat → Int32} (hm12 : k_mc n ≤ 12) (hc8 : k_cc n ≤ 8) (hC : ¬ n 0 0 3 < 0 ∧ ¬ 100000 < n 0 0 3) (hck : ¬ 100000 < n 0 0 3 + 1) {n5 : ch_N} (hN : o_NW n5 w S μ) (hf : o_fr S0 μ0 S μ) (z5 : n5 0 = n 0) (hK5 : k_G n5) (eT1 : k_t1 n = n5) : ch_W X E 7 S μ 960 1920 531 [(0, .ref (S.1 16 22 0))] [] := by
  refine ca_iconst h dX13_step_531 ik_0 ?_
  refine ca_istore_n h dX13_step_532 rfl ?_
  have loop_533 : ∀ (jj j : Nat), j + jj = k_mc n → ∀ (S : ch_S) (μ : ch_M) (w : Nat → Int32) (hN : o_NW ((kf s_dc j (n5, q)).1) w S μ) (hf : o_fr S0 μ0 S μ), ch_W X E 7 S μ (960 + 2 * j) (1920 + 16 * j) 533 [(0, .ref (S.1 16 22 0)), (1, .int (nI j))] [] := by
    intro jj
    induction jj with
    | zero =>
      intro j hn S μ w hN hf
      have hn : j = k_mc n := by omega
      obtain ⟨sj, hsj⟩ : ∃ z, z = kf s_dc j (n5, q) := ⟨_, rfl⟩
      rw [← hsj] at hN
      have e0j : sj.1 0 = n 0 := by rw [hsj]; exact (s_dc_0 _ _).trans z5
      have emm : k_mc sj.1 = k_mc n := k_mc_0 e0j
      have ecc : k_cc sj.1 = k_cc n := k_cc_0 e0j
      refine ca_iload_n h dX13_step_533 rfl ?_
      refine ca_aload_nr h dX13_step_534 rfl ?_
      refine gi_X13_60 h (hN.st.1 _ _ _ (by show _ ∧ _; omega)) dX13_step_535 ?_
      refine ca_top (y := nI (k_mc n)) (hN.many.trans (by rw [emm])) ?_
      refine ca_icmp_ge (tgt := 577) h dX13_step_538 (by decide) (fun c_538 => ?_) (fun c_538 => ?_)
      ·
        obtain ⟨n6, en6⟩ : ∃ z, z = (kf s_dc (k_mc n) (n5, q)).1 := ⟨_, rfl⟩
        have hN : o_NW n6 w S μ := by rw [en6, ← hn, ← hsj]; exact hN
        have z6 : n6 0 = n 0 := by rw [en6]; exact (s_dc_0 _ _).trans z5
        refine ca_widen (k := 984) (n := 2112) (by omega) (by omega) ?_
        refine ca_pick [0] rfl ?_
        exact c_stepF h hG hR hm12 hc8 hC hck hN hf z6 (by unfold k_tick; dsimp only; rw [eT1, k_mc_0 z5, ← en6])
      · exact absurd c_538 (by rw [hn]; exact Int32.lt_irrefl)
    | succ jj ih_533 =>
      intro j hn S μ w hN hf
      have hn1 : j < k_mc n := by omega
      obtain ⟨sj, hsj⟩ : ∃ z, z = kf s_dc j (n5, q) := ⟨_, rfl⟩
      rw [← hsj] at hN
      have e0j : sj.1 0 = n 0 := by rw [hsj]; exact (s_dc_0 _ _).trans z5
      have emm : k_mc sj.1 = k_mc n := k_mc_0 e0j
      have ecc : k_cc sj.1 = k_cc n := k_cc_0 e0j
      have hjm : j < k_mc sj.1 := by omega
      refine ca_iload_n h dX13_step_533 rfl ?_
      refine ca_aload_nr h dX13_step_534 rfl ?_
      refine gi_X13_60 h (hN.st.1 _ _ _ (by show _ ∧ _; omega)) dX13_step_535 ?_
      refine ca_top (y := nI (k_mc n)) (hN.many.trans (by rw [emm])) ?_
      refine ca_icmp_ge (tgt := 577) h dX13_step_538 (by decide) (fun c_538 => ?_) (fun c_538 => ?_)
      · exact absurd (nI_lt hn1 (by omega)) c_538
      ·
        refine ca_aload_nr h dX13_step_541 rfl ?_
        refine gr_X13_52 h (hN.st.1 _ _ _ (by show _ ∧ _; omega)) (hN.st.2.1 _ _ _ _ _ (by show _ ∧ _; omega) rfl) dX13_step_542 ?_
        show ch_W X E _ _ _ _ _ _ _ (.ref (S.1 16 25 0) :: _)
        refine ca_iload_n h dX13_step_545 rfl ?_
        refine oa_aald h (j := j) rfl (by decide) (hN.st.1 _ _ _ (by show _ ∧ _; omega)) rfl (by omega) (by decide) (hN.st.2.1 _ _ _ _ _ (by show _ ∧ _; omega) (o_rt25 (by omega))) dX13_step_546 ?_
        show ch_W X E _ _ _ _ _ _ _ (.ref (S.1 16 23 j) :: _)
        refine gi_X13_88 h (hN.st.1 _ _ _ (by show _ ∧ _; omega)) dX13_step_547 ?_
        refine ca_top (y := sj.1 3 j 4) (hN.mf (f := 4) (by omega) (by decide)) ?_
        refine ca_iconst h dX13_step_550 ik_1 ?_
        refine ca_icmp_ne (tgt := 571) h dX13_step_551 (by decide) (fun c_551 => ?_) (fun c_551 => ?_)
        ·
          refine ca_iinc h dX13_step_571 rfl ik_1 rfl ?_
          rw [show nI j + 1 = nI (j + 1) from nI_1 _]
          refine ca_goto (tgt := 533) h dX13_step_574 (by decide) ?_
          refine ca_pick [1, 0] rfl ?_
          have e9 : kf s_dc (j + 1) (n5, q) = sj := by rw [kf_s, ← hsj]; unfold s_dc; rw [if_neg (fun z => c_551 z.1)]
          refine ca_widen (k := 960 + 2 * (j + 1)) (n := 1920 + 16 * (j + 1)) (by omega) (by omega) ?_
          exact ih_533 (j + 1) (by omega) S μ w (by rw [e9]; exact hN) hf
        ·
          refine ca_aload_nr h dX13_step_554 rfl ?_
          refine gr_X13_52 h (hN.st.1 _ _ _ (by show _ ∧ _; omega)) (hN.st.2.1 _ _ _ _ _ (by show _ ∧ _; omega) rfl) dX13_step_555 ?_
          show ch_W X E _ _ _ _ _ _ _ (.ref (S.1 16 25 0) :: _)
          refine ca_iload_n h dX13_step_558 rfl ?_
          refine oa_aald h (j := j) rfl (by decide) (hN.st.1 _ _ _ (by show _ ∧ _; omega)) rfl (by omega) (by decide) (hN.st.2.1 _ _ _ _ _ (by show _ ∧ _; omega) (o_rt25 (by omega))) dX13_step_559 ?_
          show ch_W X E _ _ _ _ _ _ _ (.ref (S.1 16 23 j) :: _)
          refine gi_X13_96 h (hN.st.1 _ _ _ (by show _ ∧ _; omega)) dX13_step_560 ?_
          refine ca_top (y := sj.1 3 j 8) (hN.at8 hjm) ?_
          refine ca_if_ge (tgt := 571) h dX13_step_563 (by decide) (fun c_563 => ?_) (fun c_563 => ?_)
          ·
            refine ca_iinc h dX13_step_571 rfl ik_1 rfl ?_
            rw [show nI j + 1 = nI (j + 1) from nI_1 _]
            refine ca_goto (tgt := 533) h dX13_step_574 (by decide) ?_
            refine ca_pick [1, 0] rfl ?_
            have e9 : kf s_dc (j + 1) (n5, q) = sj := by rw [kf_s, ← hsj]; unfold s_dc; rw [if_neg (fun z => c_563 (by rw [z.2]; decide))]
            refine ca_widen (k := 960 + 2 * (j + 1)) (n := 1920 + 16 * (j + 1)) (by omega) (by omega) ?_
            exact ih_533 (j + 1) (by omega) S μ w (by rw [e9]; exact hN) hf
          ·
            have h8m : sj.1 3 j 8 = -1 := (hN.rn.2.2.2.2.1 j hjm).2.2.2.2.2.2.2.2.2.1.resolve_right (fun ⟨c, hc, e⟩ => nI_pos (n := c) (by omega) (by rw [← e]; exact c_563))
            obtain ⟨s, hsc, h5⟩ := r_sv hN.rn hjm c_551
            have hKj : k_G sj.1 := by rw [hsj]; exact G_dc _ _ hK5
            refine ca_aload_nr h dX13_step_566 rfl ?_
            refine ca_iload_n h dX13_step_567 rfl ?_
            refine oa_V h hG ml_X13_163 (c_X13_considers hN hKj (q := sj.2) hjm c_551 (s := s) (by omega) h5) (ci := 13) rfl rfl rfl (hN.st.1 _ _ _ (by show _ ∧ _; omega)) rfl rfl rfl rfl ⟨by omega, by omega⟩ rfl dX13_step_568 ?_
            intro v S1 μ1 hp
            obtain ⟨rfl, hf1, ⟨w1, hN1⟩⟩ := hp
            rw [← hf1.2.1.1]
            have hf := o_fr_tr hf hf1
            clear hN
            obtain ⟨S, rfl⟩ : ∃ z, z = S1 := ⟨_, rfl⟩
            have hN := hN1
            show ch_W X E 7 S _ _ _ _ _ []
            refine ca_iinc h dX13_step_571 rfl ik_1 rfl ?_
            rw [show nI j + 1 = nI (j + 1) from nI_1 _]
            refine ca_goto (tgt := 533) h dX13_step_574 (by decide) ?_
            refine ca_pick [1, 0] rfl ?_
            have e9 : kf s_dc (j + 1) (n5, q) = k_ch sj.1 sj.2 j := by rw [kf_s, ← hsj]; unfold s_dc; rw [if_pos ⟨c_551, h8m⟩]
            refine ca_widen (k := 960 + 2 * (j + 1)) (n := 1920 + 16 * (j + 1)) (by omega) (by omega) ?_
            exact ih_533 (j + 1) (by omega) S _ _ (by rw [e9]; exact hN) hf
  refine ca_pick [1, 0] rfl ?_
  exact loop_533 (k_mc n) 0 (by omega) S μ w hN hf
