set_option maxHeartbeats 400000 in
theorem c_L_act {l : Launch} {E : ch_E} {S : ch_S} {μ : ch_M} {n : ch_N} {B j : Nat} {w : Nat → Int32} (hs : ch_Std E S) (e0 : μ 0 = n) (hN : o_NW n w S μ) (hJ : s_J B n) (hB : B + 2 < 2 ^ 31) (hj : j < 12) (hnx : μ 15 14 0 1 = nI j) {v : Int32} (hcc0 : 0 < k_cc n) : ch_C E l yL_act cL_act 11 (some FieldType.int) 7 11 29 S μ [.ref (S.1 15 11 0), .ref (S.1 16 22 0), .int v] (o_PA n B j S μ) := by
  refine ch_enter rfl rfl ?_
  intro X hl0 h hG hR hnm
  have h : ch_H X E RL cL_act 11 := h
  have hm12 := hN.m12
  have hc8 := hN.c8
  show ch_W X E 11 S μ 0 0 0 [(0, .ref (S.1 15 11 0)), (1, .ref (S.1 16 22 0)), (2, .int v)] []
  refine ca_iload_n h dL_act_0 rfl ?_
  refine ca_bipush h dL_act_1 bk_9 ?_
  refine oa_s h hG ms_L_27 (c_L_most (by decide) (by decide)) rfl rfl rfl rfl ⟨by omega, by omega⟩ rfl dL_act_3 ?_
  generalize a_md v 9 = W
  refine ca_istore_n h dL_act_6 rfl ?_
  refine ca_iload_n h dL_act_7 rfl ?_
  refine ca_iconst h dL_act_8 ik_4 ?_
  refine ca_ishr h dL_act_9 ?_
  generalize v >>> (4 &&& 31) = u
  refine ca_istore h dL_act_10 rfl ?_
  refine ca_iload_n h dL_act_12 rfl ?_
  refine ca_iconst h dL_act_13 ik_2 ?_
  refine ca_icmp_lt (tgt := 24) h dL_act_14 (by decide) (fun c_14 => ?_) (fun c_14 => ?_)
  ·
    refine ca_pick [2, 3, 4, 1, 0] rfl ?_
    exact c_actA (m := 0) (S0 := S) (μ0 := μ) h hG hR hs e0 hN hJ hB hj hnx
  ·
    refine ca_aload_nr h dL_act_17 rfl ?_
    refine gi_L_105 h (hN.st.1 _ _ _ (by show _ ∧ _; omega)) dL_act_18 ?_
    refine ca_top (y := nI (k_mc n)) hN.many ?_
    refine ca_if_ne (tgt := 185) h dL_act_21 (by decide) (fun c_21 => ?_) (fun c_21 => ?_)
    ·
      have hM0 : 0 < k_mc n := by rcases Nat.eq_zero_or_pos (k_mc n) with z | z; (· rw [z] at c_21; exact absurd rfl c_21); (· exact z)
      refine ca_iload h dL_act_185 rfl ?_
      refine ca_aload_nr h dL_act_187 rfl ?_
      refine gi_L_105 h (hN.st.1 _ _ _ (by show _ ∧ _; omega)) dL_act_188 ?_
      refine ca_top (y := nI (k_mc n)) hN.many ?_
      refine oa_s h hG ms_L_27 (c_L_most hM0 (by omega)) rfl rfl rfl rfl ⟨by omega, by omega⟩ rfl dL_act_191 ?_
      have hm := a_md_lt (x := u) hM0
      generalize a_md u (k_mc n) = m at hm ⊢
      refine ca_istore h dL_act_194 rfl ?_
      refine ca_aload_nr h dL_act_196 rfl ?_
      refine gr_L_154 h (hN.st.1 _ _ _ (by show _ ∧ _; omega)) (hN.st.2.1 _ _ _ _ _ (by show _ ∧ _; omega) rfl) dL_act_197 ?_
      show ch_W X E _ _ _ _ _ _ _ (.ref (S.1 16 25 0) :: _)
      refine ca_iload h dL_act_200 rfl ?_
      refine oa_aald h (j := m) rfl (by decide) (hN.st.1 _ _ _ (by show _ ∧ _; omega)) rfl (by omega) (by decide) (hN.st.2.1 _ _ _ _ _ (by show _ ∧ _; omega) (o_rt25 (by omega))) dL_act_202 ?_
      show ch_W X E _ _ _ _ _ _ _ (.ref (S.1 16 23 m) :: _)
      refine ca_astore h dL_act_203 rfl ?_
      refine ca_iload_n h dL_act_205 rfl ?_
      refine ca_bipush h dL_act_206 bk_6 ?_
      refine ca_icmp_ge (tgt := 271) h dL_act_208 (by decide) (fun c_208 => ?_) (fun c_208 => ?_)
      ·
        refine ca_iload_n h dL_act_271 rfl ?_
        refine ca_bipush h dL_act_272 bk_6 ?_
        refine ca_icmp_ne (tgt := 333) h dL_act_274 (by decide) (fun c_274 => ?_) (fun c_274 => ?_)
        ·
          refine ca_iload_n h dL_act_333 rfl ?_
          refine ca_bipush h dL_act_334 bk_7 ?_
          refine ca_icmp_ne (tgt := 404) h dL_act_336 (by decide) (fun c_336 => ?_) (fun c_336 => ?_)
          ·
            refine ca_pick [4, 5, 6, 3, 2, 1, 0] rfl ?_
            exact c_actY (S0 := S) (μ0 := μ) h hG hR hs e0 hN hJ hB hj hnx hm hcc0
          ·
            refine ca_pick [4, 5, 6, 3, 2, 1, 0] rfl ?_
            exact c_actV (S0 := S) (μ0 := μ) h hG hR hs e0 hN hJ hB hj hnx hm
        ·
          refine ca_pick [4, 5, 6, 3, 2, 1, 0] rfl ?_
          exact c_actH (S0 := S) (μ0 := μ) h hG hR hs e0 hN hJ hB hj hnx hm
      ·
        refine ca_pick [4, 5, 6, 3, 2, 1, 0] rfl ?_
        by_cases h0 : n 3 m 4 = 0
        · rcases k_cov_c (n := n) (x := n 3 m 0) (y := n 3 m 1) with hcv | ⟨s, hsc, hcv⟩
          · exact c_actU (S0 := S) (μ0 := μ) h hG hR hs e0 hN hJ hB hj hnx hm h0 hcv
          · exact c_actC (S0 := S) (μ0 := μ) h hG hR hs e0 hN hJ hB hj hnx hm h0 hsc hcv
        · exact c_actB (S0 := S) (μ0 := μ) h hG hR hs e0 hN hJ hB hj hnx hm h0
    ·
      refine ca_pick [2, 3, 4, 1, 0] rfl ?_
      exact c_actA (m := 0) (S0 := S) (μ0 := μ) h hG hR hs e0 hN hJ hB hj hnx
