set_option maxHeartbeats 200000 in
theorem c_X12_endsM {l : Launch} {E : ch_E} {S : ch_S} {μ : ch_M} {cc M : Nat} (hst : o_St S cc M) {m : Nat} (hm : m < M) : ch_C E l yX12_ends cX12_ends 1 none 1 0 0 S μ [.ref (S.1 16 23 m)] (ch_F none S ((ch_st (ch_st (ch_st (ch_st μ 16 23 m 4 0) 16 23 m 5 (-1)) 16 23 m 6 0) 16 23 m 8 (-1)))) := by
  refine ch_enter rfl rfl ?_
  intro X hl0 h hG hR hnm
  have h : ch_H X E RX12 cX12_ends 1 := h
  show ch_W X E 1 S μ 0 0 0 [(0, .ref (S.1 16 23 m))] []
  refine ca_aload_nr h dX12_ends_0 rfl ?_
  refine ca_iconst h dX12_ends_1 ik_0 ?_
  refine pi_X12_38 h (hst.1 _ _ _ (by show _ ∧ _; omega)) dX12_ends_2 ?_
  refine ca_aload_nr h dX12_ends_5 rfl ?_
  refine ca_iconst h dX12_ends_6 ik_m1 ?_
  refine pi_X12_7 h (hst.1 _ _ _ (by show _ ∧ _; omega)) dX12_ends_7 ?_
  refine ca_aload_nr h dX12_ends_10 rfl ?_
  refine ca_iconst h dX12_ends_11 ik_0 ?_
  refine pi_X12_41 h (hst.1 _ _ _ (by show _ ∧ _; omega)) dX12_ends_12 ?_
  refine ca_aload_nr h dX12_ends_15 rfl ?_
  refine ca_iconst h dX12_ends_16 ik_m1 ?_
  refine pi_X12_13 h (hst.1 _ _ _ (by show _ ∧ _; omega)) dX12_ends_17 ?_
  refine ca_vreturn h hR dX12_ends_20 ?_
  exact ⟨rfl, rfl, rfl⟩
set_option maxHeartbeats 1000000 in
theorem c_stepF {X : ch_X} {E : ch_E} {n q : ch_N} {S S0 : ch_S} {μ μ0 : ch_M} (h : ch_H X E RX13 cX13_step 7) (hG : ch_G X 4 984 2112) (hR : ch_R X E none 984 2112 (o_PS none (k_tick (n, q)).1 S0 μ0)) {w : Nat → Int32} (hm12 : k_mc n ≤ 12) (hc8 : k_cc n ≤ 8) (hC : ¬ n 0 0 3 < 0 ∧ ¬ 100000 < n 0 0 3) (hck : ¬ 100000 < n 0 0 3 + 1) {n6 : ch_N} (hN : o_NW n6 w S μ) (hf : o_fr S0 μ0 S μ) (z6 : n6 0 = n 0) (e6 : (k_tick (n, q)).1 = k_t3 n6) : ch_W X E 7 S μ 984 2112 577 [(0, .ref (S.1 16 22 0))] [] := by
  refine ca_iconst h dX13_step_577 ik_0 ?_
  refine ca_istore_n h dX13_step_578 rfl ?_
  have loop_579 : ∀ (jj j : Nat), j + jj = k_cc n → ∀ (S : ch_S) (μ : ch_M) (w : Nat → Int32) (hN : o_NW (kf s_cg j n6) w S μ) (hf : o_fr S0 μ0 S μ), ch_W X E 7 S μ 984 2112 579 [(0, .ref (S.1 16 22 0)), (1, .int (nI j))] [] := by
    intro jj
    induction jj with
    | zero =>
      intro j hn S μ w hN hf
      have hn : j = k_cc n := by omega
      obtain ⟨nj, hnj⟩ : ∃ z, z = kf s_cg j n6 := ⟨_, rfl⟩
      rw [← hnj] at hN
      have e0j : nj 0 = n 0 := by rw [hnj]; exact (kf_0 s_cg_0 _ n6).trans z6
      have emm : k_mc nj = k_mc n := k_mc_0 e0j
      have ecc : k_cc nj = k_cc n := k_cc_0 e0j
      refine ca_iload_n h dX13_step_579 rfl ?_
      refine ca_aload_nr h dX13_step_580 rfl ?_
      refine gi_X13_57 h (hN.st.1 _ _ _ (by show _ ∧ _; omega)) dX13_step_581 ?_
      refine ca_top (y := nI (k_cc n)) (hN.cells.trans (by rw [ecc])) ?_
      refine ca_icmp_ge (tgt := 611) h dX13_step_584 (by decide) (fun c_584 => ?_) (fun c_584 => ?_)
      ·
        obtain ⟨n7, en7⟩ : ∃ z, z = kf s_cg (k_cc n) n6 := ⟨_, rfl⟩
        have hN : o_NW n7 w S μ := by rw [en7, ← hn, ← hnj]; exact hN
        have z7 : n7 0 = n 0 := by rw [en7]; exact (kf_0 s_cg_0 _ n6).trans z6
        refine ca_iconst h dX13_step_611 ik_0 ?_
        refine ca_istore_n h dX13_step_612 rfl ?_
        have loop_613 : ∀ (jj j : Nat), j + jj = k_mc n → ∀ (S : ch_S) (μ : ch_M) (w : Nat → Int32) (hN : o_NW (kf s_ex j n7) w S μ) (hf : o_fr S0 μ0 S μ), ch_W X E 7 S μ 984 2112 613 [(0, .ref (S.1 16 22 0)), (1, .int (nI j))] [] := by
          intro jj
          induction jj with
          | zero =>
            intro j hn S μ w hN hf
            have hn : j = k_mc n := by omega
            obtain ⟨nj, hnj⟩ : ∃ z, z = kf s_ex j n7 := ⟨_, rfl⟩
            rw [← hnj] at hN
            have e0j : nj 0 = n 0 := by rw [hnj]; exact (kf_0 s_ex_0 _ n7).trans z7
            have emm : k_mc nj = k_mc n := k_mc_0 e0j
            have ecc : k_cc nj = k_cc n := k_cc_0 e0j
            refine ca_iload_n h dX13_step_613 rfl ?_
            refine ca_aload_nr h dX13_step_614 rfl ?_
            refine gi_X13_60 h (hN.st.1 _ _ _ (by show _ ∧ _; omega)) dX13_step_615 ?_
            refine ca_top (y := nI (k_mc n)) (hN.many.trans (by rw [emm])) ?_
            refine ca_icmp_ge (tgt := 701) h dX13_step_618 (by decide) (fun c_618 => ?_) (fun c_618 => ?_)
            ·
              obtain ⟨n8, en8⟩ : ∃ z, z = kf s_ex (k_mc n) n7 := ⟨_, rfl⟩
              have hN : o_NW n8 w S μ := by rw [en8, ← hn, ← hnj]; exact hN
              have z8 : n8 0 = n 0 := by rw [en8]; exact (kf_0 s_ex_0 _ n7).trans z7
              refine ca_aload_nr h dX13_step_701 rfl ?_
              refine ca_dup h dX13_step_702 rfl ?_
              refine gi_X13_63 h (hN.st.1 _ _ _ (by show _ ∧ _; omega)) dX13_step_703 ?_
              refine ca_top (y := n8 0 0 3) hN.clk ?_
              refine ca_iconst h dX13_step_706 ik_1 ?_
              refine ca_iadd h dX13_step_707 ?_
              refine pi_X13_63 h (hN.st.1 _ _ _ (by show _ ∧ _; omega)) dX13_step_708 ?_
              refine ca_widen (k := 984) (n := 2112) (by omega) (by omega) ?_
              refine ca_vreturn h hR dX13_step_711 ?_
              have eT : (k_tick (n, q)).1 = nw n8 0 0 3 (n8 0 0 3 + 1) := by
                rw [e6]
                unfold k_t3
                dsimp only
                rw [k_cc_0 z6, ← en7, k_mc_0 z7, ← en8]
              have e83 : n8 0 0 3 = n 0 0 3 := by rw [z8]
              have zc : ∀ j, j ≠ 3 → nw n8 0 0 3 (n8 0 0 3 + 1) 0 0 j = n8 0 0 j := fun j hj => by rw [nw_at, if_neg (fun z => hj z.2.2)]
              refine ⟨rfl, o_fr_st hf, up w 3 (n8 0 0 3 + 1), ?_⟩
              rw [eT]
              have ec : k_cc (nw n8 0 0 3 (n8 0 0 3 + 1)) = k_cc n8 := by unfold k_cc; rw [zc 0 (by decide)]
              have em : k_mc (nw n8 0 0 3 (n8 0 0 3 + 1)) = k_mc n8 := by unfold k_mc; rw [zc 2 (by decide)]
              exact o_NW_mk hN.st ec em (r_N_clk hN.rn (by rw [e83]; exact r_clk_nn hC.1 hC.2) (by rw [e83]; exact hck)) (o_R_clk hN.R) (o_A_m (o_A_n hN.A (nw_k (by decide)) (nw_k (by decide)) (nw_k (by decide)) ec) (by rw [ec]; exact hN.c8) (fun i _ => o_st_r (by omega)))
            · exact absurd c_618 (by rw [hn]; exact Int32.lt_irrefl)
          | succ jj ih_613 =>
            intro j hn S μ w hN hf
            have hn1 : j < k_mc n := by omega
            obtain ⟨nj, hnj⟩ : ∃ z, z = kf s_ex j n7 := ⟨_, rfl⟩
            rw [← hnj] at hN
            have e0j : nj 0 = n 0 := by rw [hnj]; exact (kf_0 s_ex_0 _ n7).trans z7
            have emm : k_mc nj = k_mc n := k_mc_0 e0j
            have ecc : k_cc nj = k_cc n := k_cc_0 e0j
            have hjm : j < k_mc nj := by omega
            have g8 : k_cc nj ≤ 8 := by omega
            have h8c := (hN.rn.2.2.2.2.1 j hjm).2.2.2.2.2.2.2.2.2.1
            refine ca_iload_n h dX13_step_613 rfl ?_
            refine ca_aload_nr h dX13_step_614 rfl ?_
            refine gi_X13_60 h (hN.st.1 _ _ _ (by show _ ∧ _; omega)) dX13_step_615 ?_
            refine ca_top (y := nI (k_mc n)) (hN.many.trans (by rw [emm])) ?_
            refine ca_icmp_ge (tgt := 701) h dX13_step_618 (by decide) (fun c_618 => ?_) (fun c_618 => ?_)
            · exact absurd (nI_lt hn1 (by omega)) c_618
            ·
              refine ca_aload_nr h dX13_step_621 rfl ?_
              refine gr_X13_52 h (hN.st.1 _ _ _ (by show _ ∧ _; omega)) (hN.st.2.1 _ _ _ _ _ (by show _ ∧ _; omega) rfl) dX13_step_622 ?_
              show ch_W X E _ _ _ _ _ _ _ (.ref (S.1 16 25 0) :: _)
              refine ca_iload_n h dX13_step_625 rfl ?_
              refine oa_aald h (j := j) rfl (by decide) (hN.st.1 _ _ _ (by show _ ∧ _; omega)) rfl (by omega) (by decide) (hN.st.2.1 _ _ _ _ _ (by show _ ∧ _; omega) (o_rt25 (by omega))) dX13_step_626 ?_
              show ch_W X E _ _ _ _ _ _ _ (.ref (S.1 16 23 j) :: _)
              refine ca_astore_n h dX13_step_627 rfl ?_
              refine ca_aload_nr h dX13_step_628 rfl ?_
              refine gi_X13_96 h (hN.st.1 _ _ _ (by show _ ∧ _; omega)) dX13_step_629 ?_
              refine ca_top (y := nj 3 j 8) (hN.at8 hjm) ?_
              refine ca_if_lt (tgt := 695) h dX13_step_632 (by decide) (fun c_632 => ?_) (fun c_632 => ?_)
              ·
                refine ca_iinc h dX13_step_695 rfl ik_1 rfl ?_
                rw [show nI j + 1 = nI (j + 1) from nI_1 _]
                refine ca_goto (tgt := 613) h dX13_step_698 (by decide) ?_
                refine ca_pick [2, 0] rfl ?_
                have e9 : kf s_ex (j + 1) n7 = nj := by rw [kf_s, ← hnj]; unfold s_ex; rw [if_pos (h8c.resolve_right (fun ⟨c, hc, e⟩ => nI_pos (n := c) (by omega) (by rw [← e]; exact c_632)))]
                exact ih_613 (j + 1) (by omega) S μ w (by rw [e9]; exact hN) hf
              ·
                refine ca_aload_nr h dX13_step_635 rfl ?_
                refine gi_X13_105 h (hN.st.1 _ _ _ (by show _ ∧ _; omega)) dX13_step_636 ?_
                refine ca_top (y := nj 3 j 9) ((hN.mw hjm (by decide)).trans ((hN.rn.2.2.2.2.1 j hjm).2.2.2.1 (fun z => c_632 (by rw [z]; decide))).1) ?_
                refine ca_aload_nr h dX13_step_639 rfl ?_
                refine gi_X13_19 h (hN.st.1 _ _ _ (by show _ ∧ _; omega)) dX13_step_640 ?_
                refine ca_top (y := nj 0 0 7) (hN.hd (by decide)) ?_
                refine ca_iadd h dX13_step_643 ?_
                refine ca_aload_nr h dX13_step_644 rfl ?_
                refine gi_X13_63 h (hN.st.1 _ _ _ (by show _ ∧ _; omega)) dX13_step_645 ?_
                refine ca_top (y := nj 0 0 3) hN.clk ?_
                refine ca_icmp_le (tgt := 654) h dX13_step_648 (by decide) (fun c_648 => ?_) (fun c_648 => ?_)
                ·
                  refine ca_aload_nr h dX13_step_654 rfl ?_
                  refine gr_X13_44 h (hN.st.1 _ _ _ (by show _ ∧ _; omega)) (hN.st.2.1 _ _ _ _ _ (by show _ ∧ _; omega) rfl) dX13_step_655 ?_
                  show ch_W X E _ _ _ _ _ _ _ (.ref (S.1 16 48 32) :: _)
                  refine ca_bipush h dX13_step_658 bk_7 ?_
                  refine ca_dup2 h dX13_step_660 rfl rfl ?_
                  refine oa_iald h (j := 7) rfl (hN.st.1 _ _ _ (by show _ ∧ _; omega)) rfl (by omega) (by decide) dX13_step_661 ?_
                  refine ca_iconst h dX13_step_662 ik_1 ?_
                  refine ca_iadd h dX13_step_663 ?_
                  refine oa_iast h (j := 7) rfl (hN.st.1 _ _ _ (by show _ ∧ _; omega)) rfl (by omega) (by decide) dX13_step_664 ?_
                  refine ca_aload_nr h dX13_step_665 rfl ?_
                  refine ca_iconst h dX13_step_666 ik_m1 ?_
                  refine pi_X13_96 h (hN.st.1 _ _ _ (by show _ ∧ _; omega)) dX13_step_667 ?_
                  refine ca_aload_nr h dX13_step_670 rfl ?_
                  refine gi_X13_88 h (hN.st.1 _ _ _ (by show _ ∧ _; omega)) dX13_step_671 ?_
                  refine ca_top (y := nj 3 j 4) (by (repeat rw [ch_st_at, if_neg (by omega)]); exact hN.mf (f := 4) (by omega) (by decide)) ?_
                  refine ca_iconst h dX13_step_674 ik_2 ?_
                  refine ca_icmp_eq (tgt := 681) h dX13_step_675 (by decide) (fun c_675 => ?_) (fun c_675 => ?_)
                  ·
                    refine ca_aload_nr h dX13_step_681 rfl ?_
                    refine oa_n h hG (host := "CellHandoverLaw") (List.mem_of_getElem? (i := 9) rfl) kw_738 ks_23 kw_25 kw_740 (n := 0) ⟨by decide, by decide, by decide +kernel⟩ (c_X12_endsM hN.st (m := j) hjm) (ci := 12) rfl rfl rfl (hN.st.1 _ _ _ (by show _ ∧ _; omega)) rfl rfl rfl rfl ⟨by omega, by omega⟩ rfl dX13_step_682 ?_
                    refine ca_aload_nr h dX13_step_685 rfl ?_
                    refine gr_X13_44 h (hN.st.1 _ _ _ (by show _ ∧ _; omega)) (hN.st.2.1 _ _ _ _ _ (by show _ ∧ _; omega) rfl) dX13_step_686 ?_
                    show ch_W X E _ _ _ _ _ _ _ (.ref (S.1 16 48 32) :: _)
                    refine ca_iconst h dX13_step_689 ik_4 ?_
                    refine ca_dup2 h dX13_step_690 rfl rfl ?_
                    refine oa_iald h (j := 4) rfl (hN.st.1 _ _ _ (by show _ ∧ _; omega)) rfl (by omega) (by decide) dX13_step_691 ?_
                    refine ca_iconst h dX13_step_692 ik_1 ?_
                    refine ca_iadd h dX13_step_693 ?_
                    refine oa_iast h (j := 4) rfl (hN.st.1 _ _ _ (by show _ ∧ _; omega)) rfl (by omega) (by decide) dX13_step_694 ?_
                    refine ca_iinc h dX13_step_695 rfl ik_1 rfl ?_
                    rw [show nI j + 1 = nI (j + 1) from nI_1 _]
                    refine ca_goto (tgt := 613) h dX13_step_698 (by decide) ?_
                    refine ca_pick [2, 0] rfl ?_
                    have e9 : kf s_ex (j + 1) n7 = k_cnt (k_idle (k_cnt nj 7) j) 4 := by rw [kf_s, ← hnj]; unfold s_ex; rw [if_neg (fun z => c_632 (by rw [z]; decide)), if_neg c_648, k_ex_eq, if_pos c_675]
                    have ei : ∀ kd, kd ≠ 3 → kd ≠ 5 → kd ≠ 6 → k_idle (k_cnt nj 7) j kd = k_cnt nj 7 kd := fun kd a b c => k_idle_ne a b c
                    have z9 : k_cnt (k_idle (k_cnt nj 7) j) 4 0 = nj 0 := (k_cnt_0 _ _).trans ((ei 0 (by decide) (by decide) (by decide)).trans (k_cnt_0 _ _))
                    have g7 : k_cc (k_cnt nj 7) ≤ 8 := by rw [k_cc_0 (k_cnt_0 _ _)]; exact g8
                    have g9 : k_cc (k_idle (k_cnt nj 7) j) ≤ 8 := by rw [k_cc_0 (ei 0 (by decide) (by decide) (by decide))]; exact g7
                    refine ih_613 (j + 1) (by omega) S _ (up (r_end (up w (10 + 7) (w (10 + 7) + 1)) j) (10 + 4) (r_end (up w (10 + 7) (w (10 + 7) + 1)) j (10 + 4) + 1)) ?_ (o_fr_st (o_fr_st (o_fr_st (o_fr_st (o_fr_st (o_fr_st (o_fr_st (hf))))))))
                    rw [e9]
                    refine o_NW_mk hN.st (k_cc_0 z9) (k_mc_0 z9) (r_N_tot (r_N_end (r_N_tot (t := 7) hN.rn (by decide)) (by rw [k_mc_0 (k_cnt_0 _ _)]; exact hjm)) (by decide)) (o_R_w (o_R_48 (o_R_mob (o_R_mob (o_R_mob (o_R_mob (o_R_mob (f := 8) (v := -1) (o_R_48 hN.R (by decide)) (by decide)) (by decide)) (by decide)) (by decide)) (by decide)) (by decide)) (fun i hi => (up_n (by omega)).trans (o_endw (Or.inr rfl) (fun i hi => up_n (by omega)) i hi))) ?_
                    exact o_A_tot (o_A_mob (o_A_mob (o_A_mob (o_A_mob (o_A_mob (o_A_n (o_A_tot (t := 7) hN.A g8 (by decide) rfl) (ei 1 (by decide) (by decide) (by decide)) (ei 2 (by decide) (by decide) (by decide)) (ei 7 (by decide) (by decide) (by decide)) (k_cc_0 (ei 0 (by decide) (by decide) (by decide)))) g9) g9) g9) g9) g9) g9 (by decide) rfl
                  ·
                    refine ca_goto (tgt := 695) h dX13_step_678 (by decide) ?_
                    refine ca_iinc h dX13_step_695 rfl ik_1 rfl ?_
                    rw [show nI j + 1 = nI (j + 1) from nI_1 _]
                    refine ca_goto (tgt := 613) h dX13_step_698 (by decide) ?_
                    refine ca_pick [2, 0] rfl ?_
                    have e9 : kf s_ex (j + 1) n7 = nw (k_cnt nj 7) 3 j 8 (-1) := by rw [kf_s, ← hnj]; unfold s_ex; rw [if_neg (fun z => c_632 (by rw [z]; decide)), if_neg c_648, k_ex_eq, if_neg c_675]
                    have ht : nj 3 j 4 = 1 := by rcases (hN.rn.2.2.2.2.1 j hjm).2.2.2.2.1 with z | z | z; (· exact absurd ((hN.rn.2.2.2.2.1 j hjm).2.2.2.2.2.2.2.1 z) (fun z => c_632 (by rw [z]; decide))); (· exact z); (· exact absurd z c_675)
                    have z9 : nw (k_cnt nj 7) 3 j 8 (-1) 0 = nj 0 := (nw_k (by decide)).trans (k_cnt_0 _ _)
                    have g9 : k_cc (k_cnt nj 7) ≤ 8 := by rw [k_cc_0 (k_cnt_0 _ _)]; exact g8
                    refine ih_613 (j + 1) (by omega) S _ (r_wd (up w (10 + 7) (w (10 + 7) + 1)) j) ?_ (o_fr_st (o_fr_st (hf)))
                    rw [e9]
                    refine o_NW_mk hN.st (k_cc_0 z9) (k_mc_0 z9) (r_N_wd (r_N_tot (t := 7) hN.rn (by decide)) (by rw [k_mc_0 (k_cnt_0 _ _)]; exact hjm) (by rw [k_cnt_3]; exact ht)) (o_R_mob (o_R_w (o_R_48 hN.R (by decide)) (fun i hi => up_n (by omega))) (by decide)) ?_
                    exact o_A_mob (o_A_n (o_A_tot (t := 7) hN.A g8 (by decide) rfl) (nw_k (by decide)) (nw_k (by decide)) (nw_k (by decide)) (k_cc_0 (nw_k (by decide)))) (by rw [k_cc_0 (nw_k (by decide))]; exact g9)
                ·
                  refine ca_goto (tgt := 695) h dX13_step_651 (by decide) ?_
                  refine ca_iinc h dX13_step_695 rfl ik_1 rfl ?_
                  rw [show nI j + 1 = nI (j + 1) from nI_1 _]
                  refine ca_goto (tgt := 613) h dX13_step_698 (by decide) ?_
                  refine ca_pick [2, 0] rfl ?_
                  have e9 : kf s_ex (j + 1) n7 = nj := by rw [kf_s, ← hnj]; unfold s_ex; rw [if_neg (fun z => c_632 (by rw [z]; decide)), if_pos c_648]
                  exact ih_613 (j + 1) (by omega) S μ w (by rw [e9]; exact hN) hf
        refine ca_pick [1, 0] rfl ?_
        exact loop_613 (k_mc n) 0 (by omega) S μ w hN hf
      · exact absurd c_584 (by rw [hn]; exact Int32.lt_irrefl)
    | succ jj ih_579 =>
      intro j hn S μ w hN hf
      have hn1 : j < k_cc n := by omega
      obtain ⟨nj, hnj⟩ : ∃ z, z = kf s_cg j n6 := ⟨_, rfl⟩
      rw [← hnj] at hN
      have e0j : nj 0 = n 0 := by rw [hnj]; exact (kf_0 s_cg_0 _ n6).trans z6
      have emm : k_mc nj = k_mc n := k_mc_0 e0j
      have ecc : k_cc nj = k_cc n := k_cc_0 e0j
      refine ca_iload_n h dX13_step_579 rfl ?_
      refine ca_aload_nr h dX13_step_580 rfl ?_
      refine gi_X13_57 h (hN.st.1 _ _ _ (by show _ ∧ _; omega)) dX13_step_581 ?_
      refine ca_top (y := nI (k_cc n)) (hN.cells.trans (by rw [ecc])) ?_
      refine ca_icmp_ge (tgt := 611) h dX13_step_584 (by decide) (fun c_584 => ?_) (fun c_584 => ?_)
      · exact absurd (nI_lt hn1 (by omega)) c_584
      ·
        refine ca_aload_nr h dX13_step_587 rfl ?_
        refine ca_iload_n h dX13_step_588 rfl ?_
        refine oa_v h hG ml_X13_117 (c_X13_free hN (c := j) (by omega)) (ci := 13) rfl rfl rfl (hN.st.1 _ _ _ (by show _ ∧ _; omega)) rfl rfl rfl rfl ⟨by omega, by omega⟩ rfl dX13_step_589 ?_
        refine ca_if_ne (tgt := 605) h dX13_step_592 (by decide) (fun c_592 => ?_) (fun c_592 => ?_)
        ·
          refine ca_iinc h dX13_step_605 rfl ik_1 rfl ?_
          rw [show nI j + 1 = nI (j + 1) from nI_1 _]
          refine ca_goto (tgt := 579) h dX13_step_608 (by decide) ?_
          refine ca_pick [1, 0] rfl ?_
          have e9 : kf s_cg (j + 1) n6 = nj := by rw [kf_s, ← hnj]; unfold s_cg; rw [if_pos (bI_n0.mp c_592)]
          exact ih_579 (j + 1) (by omega) S μ w (by rw [e9]; exact hN) hf
        ·
          refine ca_aload_nr h dX13_step_595 rfl ?_
          refine gr_X13_47 h (hN.st.1 _ _ _ (by show _ ∧ _; omega)) (hN.st.2.1 _ _ _ _ _ (by show _ ∧ _; omega) rfl) dX13_step_596 ?_
          show ch_W X E _ _ _ _ _ _ _ (.ref (S.1 16 48 33) :: _)
          refine ca_iload_n h dX13_step_599 rfl ?_
          refine ca_dup2 h dX13_step_600 rfl rfl ?_
          refine oa_iald h (j := j) rfl (hN.st.1 _ _ _ (by show _ ∧ _; omega)) rfl (by omega) (by decide) dX13_step_601 ?_
          refine ca_top (y := nj 1 j 8) (hN.cg (by omega)) ?_
          refine ca_iconst h dX13_step_602 ik_1 ?_
          refine ca_iadd h dX13_step_603 ?_
          refine oa_iast h (j := j) rfl (hN.st.1 _ _ _ (by show _ ∧ _; omega)) rfl (by omega) (by decide) dX13_step_604 ?_
          refine ca_iinc h dX13_step_605 rfl ik_1 rfl ?_
          rw [show nI j + 1 = nI (j + 1) from nI_1 _]
          refine ca_goto (tgt := 579) h dX13_step_608 (by decide) ?_
          refine ca_pick [1, 0] rfl ?_
          have e9 : kf s_cg (j + 1) n6 = nw nj 1 j 8 (nj 1 j 8 + 1) := by rw [kf_s, ← hnj]; unfold s_cg; rw [if_neg (fun z => bI_n0.mpr z c_592)]
          refine ih_579 (j + 1) (by omega) S _ (up w (18 + 9 * j + 8) (nj 1 j 8 + 1)) ?_ (o_fr_st (hf))
          rw [e9]
          exact o_NW_mk hN.st (k_cc_0 (nw_k (by decide))) (k_mc_0 (nw_k (by decide))) (r_N_cg hN.rn (by omega)) (o_R_w (o_R_48 hN.R (by decide)) (fun i hi => up_n (by omega))) (o_A_cg hN.A (by omega))
  refine ca_pick [1, 0] rfl ?_
  exact loop_579 (k_cc n) 0 (by omega) S μ w hN hf
