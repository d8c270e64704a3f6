/-! THE LAW'S OWN MODEL: considers -/
theorem o_rk_j {n q : ch_N} {m s t : Nat} (h8 : k_cc n ≤ 8) (hs : s < 8) (h5 : n 3 m 5 = nI s) (ht : t ≤ 8) (hc : (k_rank n q m) 17 0 0 = nI t) : (0 < t → ¬ k_avg n m (n 3 m 5) = -1 ∧ (k_rank n q m) 17 0 1 = k_em n m) ∧ ∀ j, j < t → k_car (k_rank n q m) (nI j) = (k_rank n q m) 18 0 j ∧ ∃ c, c < k_cc n ∧ (k_rank n q m) 18 0 j = nI c ∧ ¬ n 2 (8 * s + c) 0 = 0 := by
  by_cases ha : k_avg n m (n 3 m 5) = -1
  · have e : (k_rank n q m) 17 0 0 = nI 0 := by unfold k_rank; rw [if_pos ha]; simp [nw_at]; rfl
    have t0 : t = 0 := (nI_eq (by omega) (by decide)).mp (hc.symm.trans e)
    subst t0
    exact ⟨fun z => absurd z (Nat.lt_irrefl _), fun j hj => absurd hj (Nat.not_lt_zero _)⟩
  · obtain ⟨⟨t', C, hso⟩, he, -⟩ := o_rank (q := q) h8 ha
    have ht' : t' ≤ 8 := by have := hso.1; omega
    have et : t' = t := (nI_eq (by omega) (by omega)).mp (hso.2.1.symm.trans hc)
    subst et
    refine ⟨fun _ => ⟨ha, he⟩, fun j hj => ⟨?_, C j, (hso.2.2.1 j hj).1, (hso.2.2.1 j hj).2.1, fun z => ?_⟩⟩
    · unfold k_car
      rw [if_neg (nI_pos (by omega)), hc, if_pos (nI_lt hj (by omega)), if_pos (show nI j < 8 from nI_lt (b := 8) (by omega) (by decide)), nI_clamp (by omega)]
    · have h0 := (hso.2.2.1 j hj).2.2.2
      have hcj := (hso.2.2.1 j hj).1
      rw [o_gE hs (by omega) h5, if_pos z] at h0
      exact Int32.lt_irrefl h0
theorem k_ref_ne {n : ch_N} {i : Nat} {c : Int32} {kd : Nat} (h : kd ≠ 2) : k_ref n i c kd = n kd := by unfold k_ref; rw [nw_k h]
theorem k_mrq_ne {n : ch_N} {i : Nat} {c t : Int32} {kd : Nat} (h : kd ≠ 3) : k_mrq n i c t kd = n kd := by unfold k_mrq; rw [nw_k h, nw_k h]
theorem k_avg_cg {n n1 : ch_N} {m : Nat} {x : Int32} (h4 : n1 4 = n 4) (h5 : n1 5 = n 5) : k_avg n1 m x = k_avg n m x := by
  unfold k_avg k_rep k_sum
  rw [h4, h5]
/-- refused by cells before: all else is as it was -/
def o_r2 (n n1 : ch_N) : Prop := (∀ kd, kd ≠ 2 → n1 kd = n kd) ∧ ∀ r, n1 2 r 0 = n 2 r 0
set_option maxHeartbeats 1000000 in
theorem c_X13_considers {l : Launch} {E : ch_E} {S : ch_S} {μ : ch_M} {n : ch_N} {w : Nat → Int32} (hN : o_NW n w S μ) (hKG : k_G n) {q : ch_N} {m s : Nat} (hm : m < k_mc n) (ht : n 3 m 4 = 1) (hsc : s < k_cc n) (h5 : n 3 m 5 = nI s) : ch_C E l yX13_considers cX13_considers 9 none 3 2 16 S μ [.ref (S.1 16 22 0), .int (nI m)] (o_PS none (k_ch n q m).1 S μ) := by
  refine ch_enter rfl rfl ?_
  intro X hl0 h hG hR hnm
  have h : ch_H X E RX13 cX13_considers 9 := h
  have hm12 := hN.m12
  have hc8 := hN.c8
  show ch_W X E 9 S μ 0 0 0 [(0, .ref (S.1 16 22 0)), (1, .int (nI m))] []
  refine ca_aload_nr h dX13_considers_0 rfl ?_
  refine gr_X13_52 h (hN.st.1 _ _ _ (by show _ ∧ _; omega)) (hN.st.2.1 _ _ _ _ _ (by show _ ∧ _; omega) rfl) dX13_considers_1 ?_
  show ch_W X E _ _ _ _ _ _ _ (.ref (S.1 16 25 0) :: _)
  refine ca_iload_n h dX13_considers_4 rfl ?_
  refine oa_aald h (j := m) rfl (by decide) (hN.st.1 _ _ _ (by show _ ∧ _; omega)) rfl (by omega) (by decide) (hN.st.2.1 _ _ _ _ _ (by show _ ∧ _; omega) (o_rt25 (by omega))) dX13_considers_5 ?_
  show ch_W X E _ _ _ _ _ _ _ (.ref (S.1 16 23 m) :: _)
  refine ca_astore_n h dX13_considers_6 rfl ?_
  refine ca_aload_nr h dX13_considers_7 rfl ?_
  refine gi_X13_91 h (hN.st.1 _ _ _ (by show _ ∧ _; omega)) dX13_considers_8 ?_
  refine ca_top (y := nI s) ((hN.mf (f := 5) (by omega) (by decide)).trans h5) ?_
  refine ca_istore_n h dX13_considers_11 rfl ?_
  refine ca_aload_nr h dX13_considers_12 rfl ?_
  refine ca_iload_n h dX13_considers_13 rfl ?_
  obtain ⟨S0, rfl⟩ : ∃ z, z = S := ⟨_, rfl⟩
  obtain ⟨μ0, rfl⟩ : ∃ z, z = μ := ⟨_, rfl⟩
  have hN0 := hN
  refine oa_V h hG ml_X13_140 (c_X13_ranked hN0 hKG (q := q) hm ht hsc h5) (ci := 13) rfl rfl rfl (hN.st.1 _ _ _ (by show _ ∧ _; omega)) rfl rfl rfl rfl ⟨by omega, by omega⟩ rfl dX13_considers_14 ?_
  intro v S μ hp
  obtain ⟨t, ht8, rfl, hf, ⟨w1, hN⟩, hv22, hcnt, hB⟩ := hp
  rw [← hf.2.1.1]
  show ch_W X E 9 S μ _ _ _ _ (.ref (S.1 22 (t + 40) 0) :: _)
  have hrk := o_rk_j (s := s) hc8 (by omega) h5 ht8 hcnt
  have ech : (k_ch n q m).1 = (if (k_c1 (k_rank n q m) m t t n).1 = true then (k_c1 (k_rank n q m) m t t n).2 else if (k_rank n q m) 17 0 1 = 0 then (k_c1 (k_rank n q m) m t t n).2 else k_c2 (k_rank n q m) m t t (k_c1 (k_rank n q m) m t t n).2) := by
    unfold k_ch
    dsimp only
    rw [hcnt, nI_clamp (show t < 2 ^ 31 by omega)]
  refine ca_astore h dX13_considers_17 rfl ?_
  refine ca_aload h dX13_considers_19 rfl ?_
  refine ca_astore h dX13_considers_21 rfl ?_
  refine ca_aload h dX13_considers_23 rfl ?_
  refine oa_alen h (ch_kdn _) hv22 rfl dX13_considers_25 ?_
  refine ca_istore h dX13_considers_26 rfl ?_
  refine ca_iconst h dX13_considers_28 ik_0 ?_
  refine ca_istore h dX13_considers_29 rfl ?_
  refine ca_widen (k := 2) (n := 16) (by omega) (by omega) ?_
  have loop_31 : ∀ (jj k : Nat), k + jj = t → ∀ (n1 : ch_N) (w1 : Nat → Int32) (μ : ch_M) (hN : o_NW n1 w1 S μ) (hf : o_fr S0 μ0 S μ) (he : o_r2 n n1) (hk : k_c1 (k_rank n q m) m t t n = k_c1 (k_rank n q m) m t (t - k) n1) (hB : ∀ j, j < t → μ 22 (t + 40) 0 j = (k_rank n q m) 18 0 j), ch_W X E 9 S μ 2 16 31 [(0, .ref (S.1 16 22 0)), (1, .int (nI m)), (2, .ref (S.1 16 23 m)), (3, .int (nI s)), (4, .ref (S.1 22 (t + 40) 0)), (5, .ref (S.1 22 (t + 40) 0)), (6, .int (nI t)), (7, .int (nI k))] [] := by
    intro jj
    induction jj with
    | zero =>
      intro k hn n1 w1 μ hN hf he hk hB
      have hn : k = t := by omega
      refine ca_iload h dX13_considers_31 rfl ?_
      refine ca_iload h dX13_considers_33 rfl ?_
      refine ca_icmp_ge (tgt := 81) h dX13_considers_35 (by decide) (fun c_35 => ?_) (fun c_35 => ?_)
      ·
        have ec0 : k_cc n1 = k_cc n := k_cc_0 (he.1 0 (by decide))
        have em0 : k_mc n1 = k_mc n := k_mc_0 (he.1 0 (by decide))
        have hk1 : k_c1 (k_rank n q m) m t t n = (false, n1) := by rw [hk, hn, Nat.sub_self]; rfl
        have hs81 : s < 8 := by omega
        refine ca_aload h dX13_considers_81 rfl ?_
        refine oa_alen h (ch_kdn _) hv22 rfl dX13_considers_83 ?_
        refine ca_if_eq (tgt := 104) h dX13_considers_84 (by decide) (fun c_84 => ?_) (fun c_84 => ?_)
        ·
          refine ca_widen (k := 2) (n := 16) (by omega) (by omega) ?_
          refine ca_vreturn h hR dX13_considers_104 ?_
          have t0 : t = 0 := (nI_eq (by omega) (by decide)).mp c_84
          refine ⟨rfl, hf, w1, ?_⟩
          rw [show (k_ch n q m).1 = n1 by
            rw [ech, hk1]
            dsimp only
            rw [if_neg (by decide), t0]
            split <;> rfl]
          exact hN
        ·
          have ht0 : 0 < t := by rcases Nat.eq_zero_or_pos t with z | z; (· rw [z] at c_84; exact absurd rfl c_84); (· exact z)
          have hav0 : 0 < n1 5 m s := by rw [he.1 5 (by decide)]; rcases r_avg hN0.rn hm ht hs81 with z | z; (· exact absurd (by rw [h5]; exact z.2) (hrk.1 ht0).1); (· exact z.1)
          refine ca_aload_nr h dX13_considers_87 rfl ?_
          refine ca_iload_n h dX13_considers_88 rfl ?_
          refine oa_n h hG (host := "CellHandoverLaw") (List.mem_of_getElem? (i := 10) rfl) kw_743 ks_24 kw_25 kw_744 (n := 1) ⟨by decide, by decide, by decide +kernel⟩ (c_X12_average hN (m := m) (c := s) (by omega) (by rw [he.1 3 (by decide)]; exact ht) (by omega) hav0) (ci := 12) rfl rfl rfl (hN.st.1 _ _ _ (by show _ ∧ _; omega)) rfl rfl rfl rfl ⟨by omega, by omega⟩ rfl dX13_considers_89 ?_
          rw [k_avg_cg (he.1 4 (by decide)) (he.1 5 (by decide))]
          refine ca_aload_nr h dX13_considers_92 rfl ?_
          refine gr_X13_30 h (hN.st.1 _ _ _ (by show _ ∧ _; omega)) (hN.st.2.1 _ _ _ _ _ (by show _ ∧ _; omega) rfl) dX13_considers_93 ?_
          show ch_W X E _ _ _ _ _ _ _ (.ref (S.1 16 24 0) :: _)
          refine ca_iload_n h dX13_considers_96 rfl ?_
          refine oa_aald h (j := s) rfl (by decide) (hN.st.1 _ _ _ (by show _ ∧ _; omega)) rfl (by omega) (by decide) (hN.st.2.1 _ _ _ _ _ (by show _ ∧ _; omega) (o_rt240 (by omega))) dX13_considers_97 ?_
          show ch_W X E _ _ _ _ _ _ _ (.ref (S.1 16 48 s) :: _)
          refine ca_bipush h dX13_considers_98 bk_7 ?_
          refine oa_iald h (j := 7) rfl (hN.st.1 _ _ _ (by show _ ∧ _; omega)) rfl (by omega) (by decide) dX13_considers_100 ?_
          refine ca_top (y := n 1 s 7) ((hN.cf (c := s) (f := 7) (by rw [ec0]; exact hsc) (by decide)).trans (by rw [he.1 1 (by decide)])) ?_
          refine ca_icmp_lt (tgt := 105) h dX13_considers_101 (by decide) (fun c_101 => ?_) (fun c_101 => ?_)
          ·
            have hem1 : ¬ (k_rank n q m) 17 0 1 = 0 := by rw [(hrk.1 ht0).2]; unfold k_em; rw [h5, k_cel (by omega), decide_eq_true c_101]; decide
            refine ca_aload h dX13_considers_105 rfl ?_
            refine ca_astore h dX13_considers_107 rfl ?_
            refine ca_aload h dX13_considers_109 rfl ?_
            refine oa_alen h (ch_kdn _) hv22 rfl dX13_considers_111 ?_
            refine ca_istore h dX13_considers_112 rfl ?_
            refine ca_iconst h dX13_considers_114 ik_0 ?_
            refine ca_istore h dX13_considers_115 rfl ?_
            have loop_117 : ∀ (jj k : Nat), k + jj = t → ∀ (hk2 : k_c2 (k_rank n q m) m t t n1 = k_c2 (k_rank n q m) m t (t - k) n1), ch_W X E 9 S μ 2 16 117 [(0, .ref (S.1 16 22 0)), (2, .ref (S.1 16 23 m)), (5, .ref (S.1 22 (t + 40) 0)), (6, .int (nI t)), (7, .int (nI k))] [] := by
              intro jj
              induction jj with
              | zero =>
                intro k hn hk2
                have hn : k = t := by omega
                refine ca_iload h dX13_considers_117 rfl ?_
                refine ca_iload h dX13_considers_119 rfl ?_
                refine ca_icmp_ge (tgt := 175) h dX13_considers_121 (by decide) (fun c_121 => ?_) (fun c_121 => ?_)
                ·
                  refine ca_widen (k := 2) (n := 16) (by omega) (by omega) ?_
                  refine ca_vreturn h hR dX13_considers_175 ?_
                  rw [hn, Nat.sub_self] at hk2
                  refine ⟨rfl, hf, w1, ?_⟩
                  rw [show (k_ch n q m).1 = n1 by
                    rw [ech, hk1]
                    dsimp only
                    rw [if_neg (by decide), if_neg hem1, hk2]; rfl]
                  exact hN
                · exact absurd c_121 (by rw [hn]; exact Int32.lt_irrefl)
              | succ jj ih_117 =>
                intro k hn hk2
                have hn1 : k < t := by omega
                obtain ⟨ecar0, c, hc, ec18, hrel⟩ := hrk.2 k hn1
                have ecar : k_car (k_rank n q m) (nI k) = nI c := ecar0.trans ec18
                have ec : k_cc n1 = k_cc n := k_cc_0 (he.1 0 (by decide))
                have em : k_mc n1 = k_mc n := k_mc_0 (he.1 0 (by decide))
                have hm1 : m < k_mc n1 := by rw [em]; exact hm
                have ht1 : n1 3 m 4 = 1 := by rw [he.1 3 (by decide)]; exact ht
                have h51 : n1 3 m 5 = nI s := by rw [he.1 3 (by decide)]; exact h5
                have hrel1 : ¬ n1 2 (8 * s + c) 0 = 0 := by rw [he.2]; exact hrel
                refine ca_iload h dX13_considers_117 rfl ?_
                refine ca_iload h dX13_considers_119 rfl ?_
                refine ca_icmp_ge (tgt := 175) h dX13_considers_121 (by decide) (fun c_121 => ?_) (fun c_121 => ?_)
                · exact absurd (nI_lt hn1 (by omega)) c_121
                ·
                  refine ca_aload h dX13_considers_124 rfl ?_
                  refine ca_iload h dX13_considers_126 rfl ?_
                  refine oa_ialdN h (j := k) (ch_kdn _) hv22 rfl (by omega) (by omega) dX13_considers_128 ?_
                  refine ca_top (y := nI c) ((hB k hn1).trans ec18) ?_
                  refine ca_istore h dX13_considers_129 rfl ?_
                  refine ca_aload_nr h dX13_considers_131 rfl ?_
                  refine ca_iload h dX13_considers_132 rfl ?_
                  refine oa_v h hG ml_X13_99 (c_X13_waits hN) (ci := 13) rfl rfl rfl (hN.st.1 _ _ _ (by show _ ∧ _; omega)) rfl rfl rfl rfl ⟨by omega, by omega⟩ rfl dX13_considers_134 ?_
                  refine ca_aload_nr h dX13_considers_137 rfl ?_
                  refine gr_X13_30 h (hN.st.1 _ _ _ (by show _ ∧ _; omega)) (hN.st.2.1 _ _ _ _ _ (by show _ ∧ _; omega) rfl) dX13_considers_138 ?_
                  show ch_W X E _ _ _ _ _ _ _ (.ref (S.1 16 24 0) :: _)
                  refine ca_iload h dX13_considers_141 rfl ?_
                  refine oa_aald h (j := c) rfl (by decide) (hN.st.1 _ _ _ (by show _ ∧ _; omega)) rfl (by omega) (by decide) (hN.st.2.1 _ _ _ _ _ (by show _ ∧ _; omega) (o_rt240 (by omega))) dX13_considers_143 ?_
                  show ch_W X E _ _ _ _ _ _ _ (.ref (S.1 16 48 c) :: _)
                  refine ca_iconst h dX13_considers_144 ik_5 ?_
                  refine oa_iald h (j := 5) rfl (hN.st.1 _ _ _ (by show _ ∧ _; omega)) rfl (by omega) (by decide) dX13_considers_145 ?_
                  refine ca_top (y := n1 1 c 5) (hN.cf (by rw [ec]; exact hc) (by decide)) ?_
                  refine ca_icmp_ge (tgt := 169) h dX13_considers_146 (by decide) (fun c_146 => ?_) (fun c_146 => ?_)
                  ·
                    refine ca_iinc h dX13_considers_169 rfl ik_1 rfl ?_
                    rw [show nI k + 1 = nI (k + 1) from nI_1 _]
                    refine ca_goto (tgt := 117) h dX13_considers_172 (by decide) ?_
                    refine ca_pick [2, 3, 4, 5, 0] rfl ?_
                    refine ih_117 (k + 1) (by omega) ?_
                    rw [hk2, show t - k = (t - (k + 1)) + 1 by omega]
                    conv => lhs; unfold k_c2
                    rw [show t - (t - (k + 1) + 1) = k by omega, ecar, if_neg (by unfold k_place; rw [k_cel (by omega)]; exact fun z => c_146 (of_decide_eq_true z))]
                  ·
                    refine ca_aload_nr h dX13_considers_149 rfl ?_
                    refine ca_iload h dX13_considers_150 rfl ?_
                    refine pi_X13_96 h (hN.st.1 _ _ _ (by show _ ∧ _; omega)) dX13_considers_152 ?_
                    refine ca_aload_nr h dX13_considers_155 rfl ?_
                    refine ca_iconst h dX13_considers_156 ik_0 ?_
                    refine pi_X13_102 h (hN.st.1 _ _ _ (by show _ ∧ _; omega)) dX13_considers_157 ?_
                    refine ca_aload_nr h dX13_considers_160 rfl ?_
                    refine ca_aload_nr h dX13_considers_161 rfl ?_
                    refine gi_X13_63 h (hN.st.1 _ _ _ (by show _ ∧ _; omega)) dX13_considers_162 ?_
                    refine ca_top (y := n1 0 0 3) (by (repeat rw [ch_st_at, if_neg (by omega)]); exact hN.clk) ?_
                    refine pi_X13_105 h (hN.st.1 _ _ _ (by show _ ∧ _; omega)) dX13_considers_165 ?_
                    refine ca_widen (k := 2) (n := 16) (by omega) (by omega) ?_
                    refine ca_vreturn h hR dX13_considers_168 ?_
                    have hpl : k_place n1 (nI c) = true := by unfold k_place; rw [k_cel (by omega)]; exact decide_eq_true c_146
                    have ek : (k_ch n q m).1 = k_mrq n1 m (nI c) (n1 0 0 3) := by
                      rw [ech, hk1]
                      dsimp only
                      rw [if_neg (by decide), if_neg hem1, hk2, show t - k = (t - (k + 1)) + 1 by omega]
                      unfold k_c2
                      rw [show t - (t - (k + 1) + 1) = k by omega, ecar, if_pos hpl]
                    have hr := r_N_rqT hN.rn hm1 ht1 (c := c) (by rw [ec]; exact hc) (by rw [h51, r_rx (by omega) (by omega)]; exact hrel1)
                    rw [ek]
                    have z0 : k_mrq n1 m (nI c) (n1 0 0 3) 0 = n1 0 := k_mrq_ne (by decide)
                    refine ⟨rfl, o_fr_st (o_fr_st (o_fr_st hf)), _, o_NW_mk hN.st (k_cc_0 z0) (k_mc_0 z0) hr ?_ ?_⟩
                    · unfold r_rq
                      rw [hN.rn.1 3 (by decide)]
                      exact o_R_mob (f := 10) (o_R_mob (f := 9) (o_R_mob (f := 8) hN.R (by decide)) (by decide)) (by decide)
                    · have g8 : k_cc (k_mrq n1 m (nI c) (n1 0 0 3)) ≤ 8 := by rw [k_cc_0 z0, ec]; exact hc8
                      exact o_A_mob (o_A_mob (o_A_mob (o_A_n hN.A (k_mrq_ne (by decide)) (k_mrq_ne (by decide)) (k_mrq_ne (by decide)) (k_cc_0 z0)) g8) g8) g8
            refine ca_pick [3, 5, 2, 1, 0] rfl ?_
            exact loop_117 t 0 (by omega) rfl
          ·
            refine ca_widen (k := 2) (n := 16) (by omega) (by omega) ?_
            refine ca_vreturn h hR dX13_considers_104 ?_
            have hem0 : k_em n m = 0 := by
              unfold k_em
              rw [h5, k_cel (by omega), decide_eq_false (Int32.not_lt.mpr (Int32.not_lt.mp c_101))]; rfl
            refine ⟨rfl, hf, w1, ?_⟩
            rw [show (k_ch n q m).1 = n1 by
              rw [ech, hk1]
              dsimp only
              rw [if_neg (by decide), (hrk.1 ht0).2, if_pos hem0]]
            exact hN
      · exact absurd c_35 (by rw [hn]; exact Int32.lt_irrefl)
    | succ jj ih_31 =>
      intro k hn n1 w1 μ hN hf he hk hB
      have hn1 : k < t := by omega
      obtain ⟨ecar0, c, hc, ec18, hrel⟩ := hrk.2 k hn1
      have ecar : k_car (k_rank n q m) (nI k) = nI c := ecar0.trans ec18
      have ec : k_cc n1 = k_cc n := k_cc_0 (he.1 0 (by decide))
      have em : k_mc n1 = k_mc n := k_mc_0 (he.1 0 (by decide))
      have hm1 : m < k_mc n1 := by rw [em]; exact hm
      have ht1 : n1 3 m 4 = 1 := by rw [he.1 3 (by decide)]; exact ht
      have h51 : n1 3 m 5 = nI s := by rw [he.1 3 (by decide)]; exact h5
      have hrel1 : ¬ n1 2 (8 * s + c) 0 = 0 := by rw [he.2]; exact hrel
      refine ca_iload h dX13_considers_31 rfl ?_
      refine ca_iload h dX13_considers_33 rfl ?_
      refine ca_icmp_ge (tgt := 81) h dX13_considers_35 (by decide) (fun c_35 => ?_) (fun c_35 => ?_)
      · exact absurd (nI_lt hn1 (by omega)) c_35
      ·
        refine ca_aload h dX13_considers_38 rfl ?_
        refine ca_iload h dX13_considers_40 rfl ?_
        refine oa_ialdN h (j := k) (ch_kdn _) hv22 rfl (by omega) (by omega) dX13_considers_42 ?_
        refine ca_top (y := nI c) ((hB k hn1).trans ec18) ?_
        refine ca_istore h dX13_considers_43 rfl ?_
        refine ca_aload_nr h dX13_considers_45 rfl ?_
        refine ca_iload h dX13_considers_46 rfl ?_
        refine oa_v h hG ml_X13_117 (c_X13_free hN (c := c) (by omega)) (ci := 13) rfl rfl rfl (hN.st.1 _ _ _ (by show _ ∧ _; omega)) rfl rfl rfl rfl ⟨by omega, by omega⟩ rfl dX13_considers_48 ?_
        refine ca_if_eq (tgt := 62) h dX13_considers_51 (by decide) (fun c_51 => ?_) (fun c_51 => ?_)
        ·
          have hfr : ¬ k_free n1 (nI c) = true := fun z => bI_n0.mpr z c_51
          refine ca_aload_nr h dX13_considers_62 rfl ?_
          refine gr_X13_41 h (hN.st.1 _ _ _ (by show _ ∧ _; omega)) (hN.st.2.1 _ _ _ _ _ (by show _ ∧ _; omega) rfl) dX13_considers_63 ?_
          show ch_W X E _ _ _ _ _ _ _ (.ref (S.1 16 24 3) :: _)
          refine ca_iload_n h dX13_considers_66 rfl ?_
          refine oa_aald h (j := s) rfl (by decide) (hN.st.1 _ _ _ (by show _ ∧ _; omega)) rfl (by omega) (by decide) (hN.st.2.1 _ _ _ _ _ (by show _ ∧ _; omega) (o_rt243 (by omega))) dX13_considers_67 ?_
          show ch_W X E _ _ _ _ _ _ _ (.ref (S.1 16 48 (24 + s)) :: _)
          refine ca_iload h dX13_considers_68 rfl ?_
          refine ca_dup2 h dX13_considers_70 rfl rfl ?_
          refine oa_iald h (j := c) rfl (hN.st.1 _ _ _ (by show _ ∧ _; omega)) rfl (by omega) (by decide) dX13_considers_71 ?_
          refine ca_top (y := n1 2 (8 * s + c) 3) (hN.rf (by omega) (by omega)) ?_
          refine ca_iconst h dX13_considers_72 ik_1 ?_
          refine ca_iadd h dX13_considers_73 ?_
          refine oa_iast h (j := c) rfl (hN.st.1 _ _ _ (by show _ ∧ _; omega)) rfl (by omega) (by decide) dX13_considers_74 ?_
          have hex2 : k_ref n1 m (nI c) = nw n1 2 (8 * s + c) 3 (n1 2 (8 * s + c) 3 + 1) := by unfold k_ref; rw [h51, r_rx (by omega) (by omega)]
          obtain ⟨r, hr, ea, eb⟩ := hN.rn.2.2.2.1.2.2.2.1 s c (by omega) (by omega) hrel1
          have hr24 := r_24 hN.rn
          have z0 : k_ref n1 m (nI c) 0 = n1 0 := k_ref_ne (by decide)
          have hN2 : o_NW (k_ref n1 m (nI c)) (up w1 (90 + 5 * r + (3 + 1)) (n1 2 (8 * s + c) 3 + 1)) S (ch_st μ 16 48 (24 + s) c (n1 2 (8 * s + c) 3 + 1)) := by
            refine o_NW_mk hN.st (k_cc_0 z0) (k_mc_0 z0) ?_ (o_R_w (o_R_48 hN.R (by omega)) (fun i hi => up_n (by omega))) ?_
            · rw [hex2]; exact r_N_rel hN.rn (by omega) (by omega) hr ea eb (Or.inr (Or.inr rfl)) hrel1
            · rw [hex2]; exact o_A_rel (f := 3) hN.A (by omega) (by omega) (by omega) (Or.inr (Or.inr rfl)) (fun z => by cases z)
          have hf2 := o_fr_st (kd := 48) (i := 24 + s) (j := c) (v := n1 2 (8 * s + c) 3 + 1) hf
          have he2 : o_r2 n (k_ref n1 m (nI c)) := ⟨fun kd h => (k_ref_ne h).trans (he.1 kd h), fun r => by rw [hex2, nw_at, if_neg (by omega)]; exact he.2 r⟩
          have hk2 : k_c1 (k_rank n q m) m t t n = k_c1 (k_rank n q m) m t (t - (k + 1)) (k_ref n1 m (nI c)) := by
            rw [hk, show t - k = (t - (k + 1)) + 1 by omega]
            conv => lhs; unfold k_c1
            rw [show t - (t - (k + 1) + 1) = k by omega, ecar, if_neg hfr]
          have hB2 : ∀ j, j < t → ch_st μ 16 48 (24 + s) c (n1 2 (8 * s + c) 3 + 1) 22 (t + 40) 0 j = (k_rank n q m) 18 0 j := fun j hj => by rw [o_st_x (by decide)]; exact hB j hj
          refine ca_iinc h dX13_considers_75 rfl ik_1 rfl ?_
          rw [show nI k + 1 = nI (k + 1) from nI_1 _]
          refine ca_goto (tgt := 31) h dX13_considers_78 (by decide) ?_
          refine ca_pick [2, 3, 4, 5, 6, 7, 8, 0] rfl ?_
          exact ih_31 (k + 1) (by omega) _ _ _ hN2 hf2 he2 hk2 hB2
        ·
          have hfr : k_free n1 (nI c) = true := bI_n0.mp c_51
          refine ca_aload_nr h dX13_considers_54 rfl ?_
          refine ca_iload_n h dX13_considers_55 rfl ?_
          refine ca_iload h dX13_considers_56 rfl ?_
          refine oa_V h hG ml_X13_144 (c_X13_hands hN (m := m) hm1 ht1 (s := s) (t := c) (by omega) h51 (by omega) hrel1) (ci := 13) rfl rfl rfl (hN.st.1 _ _ _ (by show _ ∧ _; omega)) rfl rfl rfl rfl ⟨by omega, by omega⟩ rfl dX13_considers_58 ?_
          intro v S1 μ1 hp
          obtain ⟨rfl, rfl, h16, w2, hN2⟩ := hp
          show ch_W X E 9 _ _ _ _ _ _ []
          refine ca_widen (k := 2) (n := 16) (by omega) (by omega) ?_
          refine ca_vreturn h hR dX13_considers_61 ?_
          refine ⟨rfl, o_fr_tr hf (o_fr_16 h16), w2, ?_⟩
          rw [show (k_ch n q m).1 = k_ho n1 m (nI c) by
            rw [ech, hk, show t - k = (t - (k + 1)) + 1 by omega]
            unfold k_c1
            rw [show t - (t - (k + 1) + 1) = k by omega, ecar, if_pos hfr]; rfl]
          exact hN2
  refine ca_pick [6, 7, 5, 4, 3, 2, 1, 0] rfl ?_
  exact loop_31 t 0 (by omega) n w1 μ hN hf ⟨fun _ _ => rfl, fun _ => rfl⟩ rfl hB
