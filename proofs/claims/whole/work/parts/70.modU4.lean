set_option maxHeartbeats 400000 in
theorem c_X12_compileFactor_o3 {l : Launch} {E : ch_E} {S : ch_S} {μ : ch_M} (hs : ch_Std E S) {q : ch_N} (hX : r_X1 q (μ 16)) {n : ch_N} (hmc : k_mc n ≤ 12) (h02 : ¬ n 0 0 2 < 0) (he2 : t_e q ≤ 200) (hO : μ 16 22 0 20 = 3) {cs : List Int32} (hCs : q 12 0 1 = 0 → r_C (μ 16) cs ∧ cs.length ≤ t_s q) : ch_C E l yX12_compileFactor cX12_compileFactor 2 none 16 0 0 S μ [.ref (S.1 16 22 0)] (r_CP n q cs (e_fac n 3 q) 3 S μ) := by
  refine ch_enter rfl rfl ?_
  intro X hl0 h hG hR hnm
  have h : ch_H X E RX12 cX12_compileFactor 2 := h
  show ch_W X E 2 S μ 0 0 0 [(0, .ref (S.1 16 22 0))] []
  refine ca_aload_nr h dX12_compileFactor_0 rfl ?_
  refine ca_ldcws h (i := 382) (List.mem_of_getElem? (i := 38) rfl) dX12_compileFactor_1 ?_
  refine ca_vi h hG ml_X12_324 (c_X12_isWord hs hX (a := 10) (by decide) (by decide) (by decide)) (ci := 12) rfl rfl rfl (hs.1 _ _ _ ⟨rfl, rfl⟩) rfl rfl rfl rfl ⟨Nat.le_refl _, Nat.le_refl _⟩ rfl dX12_compileFactor_4 ?_
  refine ca_if_eq (tgt := 44) h dX12_compileFactor_7 (by decide) (fun c_7 => ?_) (fun c_7 => ?_)
  ·
    refine ca_aload_nr h dX12_compileFactor_44 rfl ?_
    refine ca_bipush h dX12_compileFactor_45 bk_40 ?_
    refine ca_vi h hG ml_X12_335 (c_X12_isSymbol hs hX (a := 11) (by decide) (by decide) (by decide)) (ci := 12) rfl rfl rfl (hs.1 _ _ _ ⟨rfl, rfl⟩) rfl rfl rfl rfl ⟨Nat.le_refl _, Nat.le_refl _⟩ rfl dX12_compileFactor_47 ?_
    refine ca_if_eq (tgt := 87) h dX12_compileFactor_50 (by decide) (fun c_50 => ?_) (fun c_50 => ?_)
    ·
      have ht1 : ¬ t_is q 10 = true := fun z => bI_n0.mpr z c_7
      have ht2 : ¬ t_is q 11 = true := fun z => bI_n0.mpr z c_50
      refine ca_aload_nr h dX12_compileFactor_87 rfl ?_
      refine ca_vXv h hG ml_X12_393 (c_X12_compileValue hs hX he2 hCs) (ci := 12) rfl rfl rfl (hs.1 _ _ _ ⟨rfl, rfl⟩) rfl rfl rfl rfl ⟨Nat.le_refl _, Nat.le_refl _⟩ rfl dX12_compileFactor_88 ?_
      intro μ9 hμ9
      obtain ⟨p1, rfl, hX1, hc1, h201, hC1⟩ := hμ9
      obtain ⟨V1, hV1⟩ : ∃ z, z = (e_sv q).1 := ⟨_, rfl⟩
      have hq1 : t_adv (e_sv q).2 = e_q1 q := rfl
      have hm1 := mo_sv q hX.2.1
      rw [hq1, ← hV1] at hC1
      rw [hq1] at hX1 hm1
      obtain ⟨Q1, hQ1⟩ : ∃ z, z = e_q1 q := ⟨_, rfl⟩
      rw [← hQ1] at hX1 hC1 hm1
      refine ca_aload_nr h dX12_compileFactor_91 rfl ?_
      refine ca_bipush h dX12_compileFactor_92 bk_60 ?_
      refine ca_vi h hG ml_X12_335 (c_X12_isSymbol hs (q := Q1) (by rw [up_s]; exact hX1) (a := 19) (by decide) (by decide) (by decide)) (ci := 12) rfl rfl rfl (hs.1 _ _ _ ⟨rfl, rfl⟩) rfl rfl rfl rfl ⟨Nat.le_refl _, Nat.le_refl _⟩ rfl dX12_compileFactor_94 ?_
      refine ca_if_eq (tgt := 105) h dX12_compileFactor_97 (by decide) (fun c_97 => ?_) (fun c_97 => ?_)
      ·
        refine ca_aload_nr h dX12_compileFactor_105 rfl ?_
        refine ca_bipush h dX12_compileFactor_106 bk_61 ?_
        refine ca_vi h hG ml_X12_335 (c_X12_isSymbol hs (q := Q1) (by rw [up_s]; exact hX1) (a := 20) (by decide) (by decide) (by decide)) (ci := 12) rfl rfl rfl (hs.1 _ _ _ ⟨rfl, rfl⟩) rfl rfl rfl rfl ⟨Nat.le_refl _, Nat.le_refl _⟩ rfl dX12_compileFactor_108 ?_
        refine ca_if_eq (tgt := 119) h dX12_compileFactor_111 (by decide) (fun c_111 => ?_) (fun c_111 => ?_)
        ·
          refine ca_bipush h dX12_compileFactor_119 bk_m22 ?_
          refine ca_istore_n h dX12_compileFactor_121 rfl ?_
          refine ca_aload_nr h dX12_compileFactor_122 rfl ?_
          refine ca_iload_n h dX12_compileFactor_123 rfl ?_
          refine ca_bipush h dX12_compileFactor_124 bk_m22 ?_
          refine ca_icmp_ne (tgt := 138) h dX12_compileFactor_126 (by decide) (fun c_126 => ?_) (fun c_126 => ?_)
          · exact absurd rfl c_126
          ·
            refine ca_aload_nr h dX12_compileFactor_129 rfl ?_
            refine ca_bipush h dX12_compileFactor_130 bk_62 ?_
            refine ca_vi h hG ml_X12_335 (c_X12_isSymbol hs (q := Q1) (by rw [up_s]; exact hX1) (a := 21) (by decide) (by decide) (by decide)) (ci := 12) rfl rfl rfl (hs.1 _ _ _ ⟨rfl, rfl⟩) rfl rfl rfl rfl ⟨Nat.le_refl _, Nat.le_refl _⟩ rfl dX12_compileFactor_132 ?_
            refine ca_if_eq (tgt := 142) h dX12_compileFactor_135 (by decide) (fun c_135 => ?_) (fun c_135 => ?_)
            ·
              refine ca_iconst h dX12_compileFactor_142 ik_0 ?_
              have n19 : ¬ t_is Q1 19 = true := fun z => bI_n0.mpr z c_97
              have n20 : ¬ t_is Q1 20 = true := fun z => bI_n0.mpr z c_111
              have hop : (-22 : Int32) = if t_is Q1 19 = true then -20 else if t_is Q1 20 = true then -21 else -22 := by rw [if_neg n19, if_neg n20]
              have e143 : r_chk Q1 0 1 = e_q2 Q1 := by unfold e_q2; rw [if_neg n19, if_neg n20, if_neg (fun z => bI_n0.mpr z c_135)]; rfl
              have hq2f : ¬ (e_q2 Q1) 12 0 1 = 0 := by unfold e_q2; rw [if_neg n19, if_neg n20, if_neg (fun z => bI_n0.mpr z c_135)]; exact t_fail_ne (by decide)
              refine ca_iconst h dX12_compileFactor_143 ik_1 ?_
              refine ca_vXv h hG ml_X12_328 (c_X12_check hs (q := Q1) (by rw [up_s]; exact hX1)) (ci := 12) rfl rfl rfl (hs.1 _ _ _ ⟨rfl, rfl⟩) rfl rfl rfl rfl ⟨Nat.le_refl _, Nat.le_refl _⟩ rfl dX12_compileFactor_144 ?_
              intro μ9 hμ9
              obtain ⟨p2, rfl, hX2, hf2⟩ := hμ9
              rw [e143] at hX2
              rw [up_up]
              rw [up_s] at hf2
              refine ca_aload_nr h dX12_compileFactor_147 rfl ?_
              refine ca_vXv h hG ml_X12_332 (c_X12_advance hs (q := e_q2 Q1) (by rw [up_s]; exact hX2)) (ci := 12) rfl rfl rfl (hs.1 _ _ _ ⟨rfl, rfl⟩) rfl rfl rfl rfl ⟨Nat.le_refl _, Nat.le_refl _⟩ rfl dX12_compileFactor_148 ?_
              intro μ9 hμ9
              obtain ⟨p3, rfl, hX3, hf3⟩ := hμ9
              rw [up_up]
              rw [up_s] at hf3
              have hq3 : t_adv (e_q2 Q1) = e_q3 q := by rw [hQ1]; rfl
              obtain ⟨Q3, hQ3⟩ : ∃ z, z = e_q3 q := ⟨_, rfl⟩
              have hm3 : r_mo Q1 Q3 := by rw [hQ3, ← hq3]; exact mo_tr (mo_q2e Q1) (mo_adv _)
              have hm3 := hm3 hm1.2.2
              have hQ13 : Q3 = t_adv (e_q2 Q1) := by rw [hQ3, hq3]
              rw [← hQ13] at hX3
              have h31 : Q3 12 0 1 = 0 → Q1 12 0 1 = 0 ∧ t_s Q1 + 1 ≤ t_s Q3 := fun z => absurd (by rw [hQ13, t_adv_1] at z; exact z) hq2f
              refine ca_aload_nr h dX12_compileFactor_151 rfl ?_
              refine ca_vXv h hG ml_X12_393 (c_X12_compileValue hs (q := Q3) (by rw [up_s]; exact hX3) (by omega) (cs := cs ++ [V1]) (fun z => by obtain ⟨y0, y1, y2, y3⟩ := hC1 (h31 z).1; obtain ⟨w1, w2⟩ := hCs y0; rw [up_s]; exact ⟨r_C_tf (r_C_tf y1 hf2) hf3, by rw [List.length_append]; have : [V1].length = 1 := rfl; have := (h31 z).2; omega⟩)) (ci := 12) rfl rfl rfl (hs.1 _ _ _ ⟨rfl, rfl⟩) rfl rfl rfl rfl ⟨Nat.le_refl _, Nat.le_refl _⟩ rfl dX12_compileFactor_152 ?_
              intro μ9 hμ9
              obtain ⟨p4, rfl, hX4, hc4, h204, hC4⟩ := hμ9
              rw [up_up]
              rw [up_s] at hc4 h204
              obtain ⟨V2, hV2⟩ : ∃ z, z = (e_sv Q3).1 := ⟨_, rfl⟩
              have hm4 := mo_sv Q3 hX3.2.1
              obtain ⟨Q4, hQ4⟩ : ∃ z, z = t_adv (e_sv Q3).2 := ⟨_, rfl⟩
              rw [← hQ4] at hX4 hC4 hm4
              rw [← hV2] at hC4
              have hle4 : t_s Q4 ≤ t_e Q4 := by have := hX4.2.1.2.2; have := hX4.2.1.1.2.2.2; omega
              have hall : Q4 12 0 1 = 0 → q 12 0 1 = 0 ∧ r_C p4 (cs ++ [V1] ++ [V2]) ∧ -20 < V1 ∧ -20 < V2 ∧ t_s q + 3 ≤ t_s Q4 ∧ cs.length ≤ t_s q := fun z => by
                obtain ⟨a0, a1, a2, a3⟩ := hC4 z
                obtain ⟨b1, b2⟩ := h31 a0
                obtain ⟨y0, y1, y2, y3⟩ := hC1 b1
                exact ⟨y0, a1, y2, a2, by omega, (hCs y0).2⟩
              refine ca_aload_nr h dX12_compileFactor_155 rfl ?_
              refine ca_iload_n h dX12_compileFactor_156 rfl ?_
              refine ca_vXv h hG ml_X12_379 (c_X12_emit hs (q := Q4) (by rw [up_s]; exact hX4) (cs := cs ++ [V1] ++ [V2]) (fun z => by obtain ⟨a0, a1, a2, a3, a4, a5⟩ := hall z; rw [up_s]; exact ⟨a1, by rw [List.length_append, List.length_append]; have : [V1].length = 1 := rfl; have : [V2].length = 1 := rfl; omega⟩)) (ci := 12) rfl rfl rfl (hs.1 _ _ _ ⟨rfl, rfl⟩) rfl rfl rfl rfl ⟨Nat.le_refl _, Nat.le_refl _⟩ rfl dX12_compileFactor_157 ?_
              intro μ9 hμ9
              obtain ⟨p5, rfl, hX5, hc5, h205, hC5⟩ := hμ9
              rw [up_up]
              rw [up_s] at hc5 h205
              refine ca_vreturn h hR dX12_compileFactor_160 ?_
              have er : e_fac n 3 q = (e_hold n (t_is Q1 19) (t_is Q1 20) V1 V2 (k_mc n), Q4) := by rw [e_fac_c n q 3 ht1 ht2, e_cmp_e, ← hQ1, ← hQ3, ← hV1, ← hV2, ← hQ4]
              rw [er]
              refine ⟨rfl, rfl, _, [V1, V2, -22], rfl, hX5, r_tc_tr (r_tc_tr (r_tc_tr (r_tc_tr hc1 (r_tc_tf hf2)) (r_tc_tf hf3)) hc4) hc5, by rw [h205, h204, hf3.2 20 (by omega), hf2.2 20 (by omega), h201, hO], ?_, fun z => ?_⟩
              · show t_e Q4 = t_e q
                have := hm1.1; have := hm3.1; have := hm4.1; omega
              · obtain ⟨a0, a1, a2, a3, a4, a5⟩ := hall z
                have hcs : cs ++ [V1, V2, -22] = cs ++ [V1] ++ [V2] ++ [-22] := by simp
                exact ⟨a0, by rw [hcs]; exact hC5 z, cg_cmp hmc a2 a3 hop, by show 3 + t_s q ≤ t_s Q4; omega⟩
            ·
              refine ca_iconst h dX12_compileFactor_138 ik_1 ?_
              refine ca_goto (tgt := 143) h dX12_compileFactor_139 (by decide) ?_
              have n19 : ¬ t_is Q1 19 = true := fun z => bI_n0.mpr z c_97
              have n20 : ¬ t_is Q1 20 = true := fun z => bI_n0.mpr z c_111
              have hop : (-22 : Int32) = if t_is Q1 19 = true then -20 else if t_is Q1 20 = true then -21 else -22 := by rw [if_neg n19, if_neg n20]
              have e143 : r_chk Q1 1 1 = e_q2 Q1 := by unfold e_q2; rw [if_neg n19, if_neg n20, if_pos (bI_n0.mp c_135)]; rfl
              have hq2 : e_q2 Q1 = Q1 := by unfold e_q2; rw [if_neg n19, if_neg n20, if_pos (bI_n0.mp c_135)]
              have hlt1 : t_s Q1 < t_e Q1 := (t_is_kind hX1 (bI_n0.mp c_135) (by decide)).2
              refine ca_iconst h dX12_compileFactor_143 ik_1 ?_
              refine ca_vXv h hG ml_X12_328 (c_X12_check hs (q := Q1) (by rw [up_s]; exact hX1)) (ci := 12) rfl rfl rfl (hs.1 _ _ _ ⟨rfl, rfl⟩) rfl rfl rfl rfl ⟨Nat.le_refl _, Nat.le_refl _⟩ rfl dX12_compileFactor_144 ?_
              intro μ9 hμ9
              obtain ⟨p2, rfl, hX2, hf2⟩ := hμ9
              rw [e143] at hX2
              rw [up_up]
              rw [up_s] at hf2
              refine ca_aload_nr h dX12_compileFactor_147 rfl ?_
              refine ca_vXv h hG ml_X12_332 (c_X12_advance hs (q := e_q2 Q1) (by rw [up_s]; exact hX2)) (ci := 12) rfl rfl rfl (hs.1 _ _ _ ⟨rfl, rfl⟩) rfl rfl rfl rfl ⟨Nat.le_refl _, Nat.le_refl _⟩ rfl dX12_compileFactor_148 ?_
              intro μ9 hμ9
              obtain ⟨p3, rfl, hX3, hf3⟩ := hμ9
              rw [up_up]
              rw [up_s] at hf3
              have hq3 : t_adv (e_q2 Q1) = e_q3 q := by rw [hQ1]; rfl
              obtain ⟨Q3, hQ3⟩ : ∃ z, z = e_q3 q := ⟨_, rfl⟩
              have hm3 : r_mo Q1 Q3 := by rw [hQ3, ← hq3]; exact mo_tr (mo_q2e Q1) (mo_adv _)
              have hm3 := hm3 hm1.2.2
              have hQ13 : Q3 = t_adv (e_q2 Q1) := by rw [hQ3, hq3]
              rw [← hQ13] at hX3
              have h31 : Q3 12 0 1 = 0 → Q1 12 0 1 = 0 ∧ t_s Q1 + 1 ≤ t_s Q3 := fun z => by
                rw [hQ13, t_adv_1, hq2] at z
                exact ⟨z, by rw [hQ13, hq2]; exact t_adv_gt hX1 z hlt1⟩
              refine ca_aload_nr h dX12_compileFactor_151 rfl ?_
              refine ca_vXv h hG ml_X12_393 (c_X12_compileValue hs (q := Q3) (by rw [up_s]; exact hX3) (by omega) (cs := cs ++ [V1]) (fun z => by obtain ⟨y0, y1, y2, y3⟩ := hC1 (h31 z).1; obtain ⟨w1, w2⟩ := hCs y0; rw [up_s]; exact ⟨r_C_tf (r_C_tf y1 hf2) hf3, by rw [List.length_append]; have : [V1].length = 1 := rfl; have := (h31 z).2; omega⟩)) (ci := 12) rfl rfl rfl (hs.1 _ _ _ ⟨rfl, rfl⟩) rfl rfl rfl rfl ⟨Nat.le_refl _, Nat.le_refl _⟩ rfl dX12_compileFactor_152 ?_
              intro μ9 hμ9
              obtain ⟨p4, rfl, hX4, hc4, h204, hC4⟩ := hμ9
              rw [up_up]
              rw [up_s] at hc4 h204
              obtain ⟨V2, hV2⟩ : ∃ z, z = (e_sv Q3).1 := ⟨_, rfl⟩
              have hm4 := mo_sv Q3 hX3.2.1
              obtain ⟨Q4, hQ4⟩ : ∃ z, z = t_adv (e_sv Q3).2 := ⟨_, rfl⟩
              rw [← hQ4] at hX4 hC4 hm4
              rw [← hV2] at hC4
              have hle4 : t_s Q4 ≤ t_e Q4 := by have := hX4.2.1.2.2; have := hX4.2.1.1.2.2.2; omega
              have hall : Q4 12 0 1 = 0 → q 12 0 1 = 0 ∧ r_C p4 (cs ++ [V1] ++ [V2]) ∧ -20 < V1 ∧ -20 < V2 ∧ t_s q + 3 ≤ t_s Q4 ∧ cs.length ≤ t_s q := fun z => by
                obtain ⟨a0, a1, a2, a3⟩ := hC4 z
                obtain ⟨b1, b2⟩ := h31 a0
                obtain ⟨y0, y1, y2, y3⟩ := hC1 b1
                exact ⟨y0, a1, y2, a2, by omega, (hCs y0).2⟩
              refine ca_aload_nr h dX12_compileFactor_155 rfl ?_
              refine ca_iload_n h dX12_compileFactor_156 rfl ?_
              refine ca_vXv h hG ml_X12_379 (c_X12_emit hs (q := Q4) (by rw [up_s]; exact hX4) (cs := cs ++ [V1] ++ [V2]) (fun z => by obtain ⟨a0, a1, a2, a3, a4, a5⟩ := hall z; rw [up_s]; exact ⟨a1, by rw [List.length_append, List.length_append]; have : [V1].length = 1 := rfl; have : [V2].length = 1 := rfl; omega⟩)) (ci := 12) rfl rfl rfl (hs.1 _ _ _ ⟨rfl, rfl⟩) rfl rfl rfl rfl ⟨Nat.le_refl _, Nat.le_refl _⟩ rfl dX12_compileFactor_157 ?_
              intro μ9 hμ9
              obtain ⟨p5, rfl, hX5, hc5, h205, hC5⟩ := hμ9
              rw [up_up]
              rw [up_s] at hc5 h205
              refine ca_vreturn h hR dX12_compileFactor_160 ?_
              have er : e_fac n 3 q = (e_hold n (t_is Q1 19) (t_is Q1 20) V1 V2 (k_mc n), Q4) := by rw [e_fac_c n q 3 ht1 ht2, e_cmp_e, ← hQ1, ← hQ3, ← hV1, ← hV2, ← hQ4]
              rw [er]
              refine ⟨rfl, rfl, _, [V1, V2, -22], rfl, hX5, r_tc_tr (r_tc_tr (r_tc_tr (r_tc_tr hc1 (r_tc_tf hf2)) (r_tc_tf hf3)) hc4) hc5, by rw [h205, h204, hf3.2 20 (by omega), hf2.2 20 (by omega), h201, hO], ?_, fun z => ?_⟩
              · show t_e Q4 = t_e q
                have := hm1.1; have := hm3.1; have := hm4.1; omega
              · obtain ⟨a0, a1, a2, a3, a4, a5⟩ := hall z
                have hcs : cs ++ [V1, V2, -22] = cs ++ [V1] ++ [V2] ++ [-22] := by simp
                exact ⟨a0, by rw [hcs]; exact hC5 z, cg_cmp hmc a2 a3 hop, by show 3 + t_s q ≤ t_s Q4; omega⟩
        ·
          refine ca_bipush h dX12_compileFactor_114 bk_m21 ?_
          refine ca_goto (tgt := 121) h dX12_compileFactor_116 (by decide) ?_
          refine ca_istore_n h dX12_compileFactor_121 rfl ?_
          refine ca_aload_nr h dX12_compileFactor_122 rfl ?_
          refine ca_iload_n h dX12_compileFactor_123 rfl ?_
          refine ca_bipush h dX12_compileFactor_124 bk_m22 ?_
          refine ca_icmp_ne (tgt := 138) h dX12_compileFactor_126 (by decide) (fun c_126 => ?_) (fun c_126 => ?_)
          ·
            refine ca_iconst h dX12_compileFactor_138 ik_1 ?_
            refine ca_goto (tgt := 143) h dX12_compileFactor_139 (by decide) ?_
            have n19 : ¬ t_is Q1 19 = true := fun z => bI_n0.mpr z c_97
            have e143 : r_chk Q1 1 1 = e_q2 Q1 := by unfold e_q2; rw [if_neg n19, if_pos (bI_n0.mp c_111)]; rfl
            have hop : (-21 : Int32) = if t_is Q1 19 = true then -20 else if t_is Q1 20 = true then -21 else -22 := by rw [if_neg n19, if_pos (bI_n0.mp c_111)]
            have hq2 : e_q2 Q1 = Q1 := by unfold e_q2; rw [if_neg n19, if_pos (bI_n0.mp c_111)]
            have hlt1 : t_s Q1 < t_e Q1 := (t_is_kind hX1 (bI_n0.mp c_111) (by decide)).2
            refine ca_iconst h dX12_compileFactor_143 ik_1 ?_
            refine ca_vXv h hG ml_X12_328 (c_X12_check hs (q := Q1) (by rw [up_s]; exact hX1)) (ci := 12) rfl rfl rfl (hs.1 _ _ _ ⟨rfl, rfl⟩) rfl rfl rfl rfl ⟨Nat.le_refl _, Nat.le_refl _⟩ rfl dX12_compileFactor_144 ?_
            intro μ9 hμ9
            obtain ⟨p2, rfl, hX2, hf2⟩ := hμ9
            rw [e143] at hX2
            rw [up_up]
            rw [up_s] at hf2
            refine ca_aload_nr h dX12_compileFactor_147 rfl ?_
            refine ca_vXv h hG ml_X12_332 (c_X12_advance hs (q := e_q2 Q1) (by rw [up_s]; exact hX2)) (ci := 12) rfl rfl rfl (hs.1 _ _ _ ⟨rfl, rfl⟩) rfl rfl rfl rfl ⟨Nat.le_refl _, Nat.le_refl _⟩ rfl dX12_compileFactor_148 ?_
            intro μ9 hμ9
            obtain ⟨p3, rfl, hX3, hf3⟩ := hμ9
            rw [up_up]
            rw [up_s] at hf3
            have hq3 : t_adv (e_q2 Q1) = e_q3 q := by rw [hQ1]; rfl
            obtain ⟨Q3, hQ3⟩ : ∃ z, z = e_q3 q := ⟨_, rfl⟩
            have hm3 : r_mo Q1 Q3 := by rw [hQ3, ← hq3]; exact mo_tr (mo_q2e Q1) (mo_adv _)
            have hm3 := hm3 hm1.2.2
            have hQ13 : Q3 = t_adv (e_q2 Q1) := by rw [hQ3, hq3]
            rw [← hQ13] at hX3
            have h31 : Q3 12 0 1 = 0 → Q1 12 0 1 = 0 ∧ t_s Q1 + 1 ≤ t_s Q3 := fun z => by
              rw [hQ13, t_adv_1, hq2] at z
              exact ⟨z, by rw [hQ13, hq2]; exact t_adv_gt hX1 z hlt1⟩
            refine ca_aload_nr h dX12_compileFactor_151 rfl ?_
            refine ca_vXv h hG ml_X12_393 (c_X12_compileValue hs (q := Q3) (by rw [up_s]; exact hX3) (by omega) (cs := cs ++ [V1]) (fun z => by obtain ⟨y0, y1, y2, y3⟩ := hC1 (h31 z).1; obtain ⟨w1, w2⟩ := hCs y0; rw [up_s]; exact ⟨r_C_tf (r_C_tf y1 hf2) hf3, by rw [List.length_append]; have : [V1].length = 1 := rfl; have := (h31 z).2; omega⟩)) (ci := 12) rfl rfl rfl (hs.1 _ _ _ ⟨rfl, rfl⟩) rfl rfl rfl rfl ⟨Nat.le_refl _, Nat.le_refl _⟩ rfl dX12_compileFactor_152 ?_
            intro μ9 hμ9
            obtain ⟨p4, rfl, hX4, hc4, h204, hC4⟩ := hμ9
            rw [up_up]
            rw [up_s] at hc4 h204
            obtain ⟨V2, hV2⟩ : ∃ z, z = (e_sv Q3).1 := ⟨_, rfl⟩
            have hm4 := mo_sv Q3 hX3.2.1
            obtain ⟨Q4, hQ4⟩ : ∃ z, z = t_adv (e_sv Q3).2 := ⟨_, rfl⟩
            rw [← hQ4] at hX4 hC4 hm4
            rw [← hV2] at hC4
            have hle4 : t_s Q4 ≤ t_e Q4 := by have := hX4.2.1.2.2; have := hX4.2.1.1.2.2.2; omega
            have hall : Q4 12 0 1 = 0 → q 12 0 1 = 0 ∧ r_C p4 (cs ++ [V1] ++ [V2]) ∧ -20 < V1 ∧ -20 < V2 ∧ t_s q + 3 ≤ t_s Q4 ∧ cs.length ≤ t_s q := fun z => by
              obtain ⟨a0, a1, a2, a3⟩ := hC4 z
              obtain ⟨b1, b2⟩ := h31 a0
              obtain ⟨y0, y1, y2, y3⟩ := hC1 b1
              exact ⟨y0, a1, y2, a2, by omega, (hCs y0).2⟩
            refine ca_aload_nr h dX12_compileFactor_155 rfl ?_
            refine ca_iload_n h dX12_compileFactor_156 rfl ?_
            refine ca_vXv h hG ml_X12_379 (c_X12_emit hs (q := Q4) (by rw [up_s]; exact hX4) (cs := cs ++ [V1] ++ [V2]) (fun z => by obtain ⟨a0, a1, a2, a3, a4, a5⟩ := hall z; rw [up_s]; exact ⟨a1, by rw [List.length_append, List.length_append]; have : [V1].length = 1 := rfl; have : [V2].length = 1 := rfl; omega⟩)) (ci := 12) rfl rfl rfl (hs.1 _ _ _ ⟨rfl, rfl⟩) rfl rfl rfl rfl ⟨Nat.le_refl _, Nat.le_refl _⟩ rfl dX12_compileFactor_157 ?_
            intro μ9 hμ9
            obtain ⟨p5, rfl, hX5, hc5, h205, hC5⟩ := hμ9
            rw [up_up]
            rw [up_s] at hc5 h205
            refine ca_vreturn h hR dX12_compileFactor_160 ?_
            have er : e_fac n 3 q = (e_hold n (t_is Q1 19) (t_is Q1 20) V1 V2 (k_mc n), Q4) := by rw [e_fac_c n q 3 ht1 ht2, e_cmp_e, ← hQ1, ← hQ3, ← hV1, ← hV2, ← hQ4]
            rw [er]
            refine ⟨rfl, rfl, _, [V1, V2, -21], rfl, hX5, r_tc_tr (r_tc_tr (r_tc_tr (r_tc_tr hc1 (r_tc_tf hf2)) (r_tc_tf hf3)) hc4) hc5, by rw [h205, h204, hf3.2 20 (by omega), hf2.2 20 (by omega), h201, hO], ?_, fun z => ?_⟩
            · show t_e Q4 = t_e q
              have := hm1.1; have := hm3.1; have := hm4.1; omega
            · obtain ⟨a0, a1, a2, a3, a4, a5⟩ := hall z
              have hcs : cs ++ [V1, V2, -21] = cs ++ [V1] ++ [V2] ++ [-21] := by simp
              exact ⟨a0, by rw [hcs]; exact hC5 z, cg_cmp hmc a2 a3 hop, by show 3 + t_s q ≤ t_s Q4; omega⟩
          · exact absurd c_126 (by decide)
      ·
        refine ca_bipush h dX12_compileFactor_100 bk_m20 ?_
        refine ca_goto (tgt := 121) h dX12_compileFactor_102 (by decide) ?_
        refine ca_istore_n h dX12_compileFactor_121 rfl ?_
        refine ca_aload_nr h dX12_compileFactor_122 rfl ?_
        refine ca_iload_n h dX12_compileFactor_123 rfl ?_
        refine ca_bipush h dX12_compileFactor_124 bk_m22 ?_
        refine ca_icmp_ne (tgt := 138) h dX12_compileFactor_126 (by decide) (fun c_126 => ?_) (fun c_126 => ?_)
        ·
          refine ca_iconst h dX12_compileFactor_138 ik_1 ?_
          refine ca_goto (tgt := 143) h dX12_compileFactor_139 (by decide) ?_
          have e143 : r_chk Q1 1 1 = e_q2 Q1 := by unfold e_q2; rw [if_pos (bI_n0.mp c_97)]; rfl
          have hop : (-20 : Int32) = if t_is Q1 19 = true then -20 else if t_is Q1 20 = true then -21 else -22 := by rw [if_pos (bI_n0.mp c_97)]
          have hq2 : e_q2 Q1 = Q1 := by unfold e_q2; rw [if_pos (bI_n0.mp c_97)]
          have hlt1 : t_s Q1 < t_e Q1 := (t_is_kind hX1 (bI_n0.mp c_97) (by decide)).2
          refine ca_iconst h dX12_compileFactor_143 ik_1 ?_
          refine ca_vXv h hG ml_X12_328 (c_X12_check hs (q := Q1) (by rw [up_s]; exact hX1)) (ci := 12) rfl rfl rfl (hs.1 _ _ _ ⟨rfl, rfl⟩) rfl rfl rfl rfl ⟨Nat.le_refl _, Nat.le_refl _⟩ rfl dX12_compileFactor_144 ?_
          intro μ9 hμ9
          obtain ⟨p2, rfl, hX2, hf2⟩ := hμ9
          rw [e143] at hX2
          rw [up_up]
          rw [up_s] at hf2
          refine ca_aload_nr h dX12_compileFactor_147 rfl ?_
          refine ca_vXv h hG ml_X12_332 (c_X12_advance hs (q := e_q2 Q1) (by rw [up_s]; exact hX2)) (ci := 12) rfl rfl rfl (hs.1 _ _ _ ⟨rfl, rfl⟩) rfl rfl rfl rfl ⟨Nat.le_refl _, Nat.le_refl _⟩ rfl dX12_compileFactor_148 ?_
          intro μ9 hμ9
          obtain ⟨p3, rfl, hX3, hf3⟩ := hμ9
          rw [up_up]
          rw [up_s] at hf3
          have hq3 : t_adv (e_q2 Q1) = e_q3 q := by rw [hQ1]; rfl
          obtain ⟨Q3, hQ3⟩ : ∃ z, z = e_q3 q := ⟨_, rfl⟩
          have hm3 : r_mo Q1 Q3 := by rw [hQ3, ← hq3]; exact mo_tr (mo_q2e Q1) (mo_adv _)
          have hm3 := hm3 hm1.2.2
          have hQ13 : Q3 = t_adv (e_q2 Q1) := by rw [hQ3, hq3]
          rw [← hQ13] at hX3
          have h31 : Q3 12 0 1 = 0 → Q1 12 0 1 = 0 ∧ t_s Q1 + 1 ≤ t_s Q3 := fun z => by
            rw [hQ13, t_adv_1, hq2] at z
            exact ⟨z, by rw [hQ13, hq2]; exact t_adv_gt hX1 z hlt1⟩
          refine ca_aload_nr h dX12_compileFactor_151 rfl ?_
          refine ca_vXv h hG ml_X12_393 (c_X12_compileValue hs (q := Q3) (by rw [up_s]; exact hX3) (by omega) (cs := cs ++ [V1]) (fun z => by obtain ⟨y0, y1, y2, y3⟩ := hC1 (h31 z).1; obtain ⟨w1, w2⟩ := hCs y0; rw [up_s]; exact ⟨r_C_tf (r_C_tf y1 hf2) hf3, by rw [List.length_append]; have : [V1].length = 1 := rfl; have := (h31 z).2; omega⟩)) (ci := 12) rfl rfl rfl (hs.1 _ _ _ ⟨rfl, rfl⟩) rfl rfl rfl rfl ⟨Nat.le_refl _, Nat.le_refl _⟩ rfl dX12_compileFactor_152 ?_
          intro μ9 hμ9
          obtain ⟨p4, rfl, hX4, hc4, h204, hC4⟩ := hμ9
          rw [up_up]
          rw [up_s] at hc4 h204
          obtain ⟨V2, hV2⟩ : ∃ z, z = (e_sv Q3).1 := ⟨_, rfl⟩
          have hm4 := mo_sv Q3 hX3.2.1
          obtain ⟨Q4, hQ4⟩ : ∃ z, z = t_adv (e_sv Q3).2 := ⟨_, rfl⟩
          rw [← hQ4] at hX4 hC4 hm4
          rw [← hV2] at hC4
          have hle4 : t_s Q4 ≤ t_e Q4 := by have := hX4.2.1.2.2; have := hX4.2.1.1.2.2.2; omega
          have hall : Q4 12 0 1 = 0 → q 12 0 1 = 0 ∧ r_C p4 (cs ++ [V1] ++ [V2]) ∧ -20 < V1 ∧ -20 < V2 ∧ t_s q + 3 ≤ t_s Q4 ∧ cs.length ≤ t_s q := fun z => by
            obtain ⟨a0, a1, a2, a3⟩ := hC4 z
            obtain ⟨b1, b2⟩ := h31 a0
            obtain ⟨y0, y1, y2, y3⟩ := hC1 b1
            exact ⟨y0, a1, y2, a2, by omega, (hCs y0).2⟩
          refine ca_aload_nr h dX12_compileFactor_155 rfl ?_
          refine ca_iload_n h dX12_compileFactor_156 rfl ?_
          refine ca_vXv h hG ml_X12_379 (c_X12_emit hs (q := Q4) (by rw [up_s]; exact hX4) (cs := cs ++ [V1] ++ [V2]) (fun z => by obtain ⟨a0, a1, a2, a3, a4, a5⟩ := hall z; rw [up_s]; exact ⟨a1, by rw [List.length_append, List.length_append]; have : [V1].length = 1 := rfl; have : [V2].length = 1 := rfl; omega⟩)) (ci := 12) rfl rfl rfl (hs.1 _ _ _ ⟨rfl, rfl⟩) rfl rfl rfl rfl ⟨Nat.le_refl _, Nat.le_refl _⟩ rfl dX12_compileFactor_157 ?_
          intro μ9 hμ9
          obtain ⟨p5, rfl, hX5, hc5, h205, hC5⟩ := hμ9
          rw [up_up]
          rw [up_s] at hc5 h205
          refine ca_vreturn h hR dX12_compileFactor_160 ?_
          have er : e_fac n 3 q = (e_hold n (t_is Q1 19) (t_is Q1 20) V1 V2 (k_mc n), Q4) := by rw [e_fac_c n q 3 ht1 ht2, e_cmp_e, ← hQ1, ← hQ3, ← hV1, ← hV2, ← hQ4]
          rw [er]
          refine ⟨rfl, rfl, _, [V1, V2, -20], rfl, hX5, r_tc_tr (r_tc_tr (r_tc_tr (r_tc_tr hc1 (r_tc_tf hf2)) (r_tc_tf hf3)) hc4) hc5, by rw [h205, h204, hf3.2 20 (by omega), hf2.2 20 (by omega), h201, hO], ?_, fun z => ?_⟩
          · show t_e Q4 = t_e q
            have := hm1.1; have := hm3.1; have := hm4.1; omega
          · obtain ⟨a0, a1, a2, a3, a4, a5⟩ := hall z
            have hcs : cs ++ [V1, V2, -20] = cs ++ [V1] ++ [V2] ++ [-20] := by simp
            exact ⟨a0, by rw [hcs]; exact hC5 z, cg_cmp hmc a2 a3 hop, by show 3 + t_s q ≤ t_s Q4; omega⟩
        · exact absurd c_126 (by decide)
    ·
      have ht : t_is q 11 = true := bI_n0.mp c_50
      have ht1 : ¬ t_is q 10 = true := fun z => bI_n0.mpr z c_7
      refine ca_aload_nr h dX12_compileFactor_53 rfl ?_
      refine ca_vXv h hG ml_X12_384 (c_X12_enter hs hX (o := 3) hO (by decide)) (ci := 12) rfl rfl rfl (hs.1 _ _ _ ⟨rfl, rfl⟩) rfl rfl rfl rfl ⟨Nat.le_refl _, Nat.le_refl _⟩ rfl dX12_compileFactor_54 ?_
      intro μ9 hμ9
      obtain ⟨p, rfl, hX9, hf⟩ := hμ9
      have h20 : p 22 0 20 = nI 4 := by rw [hf.2 20 (by omega), nw_at, if_pos ⟨rfl, rfl, rfl⟩]
      have hx5 := hX.2.1
      have hlt := (t_is_kind hX ht (by decide)).2
      have h0 := t_is_0 ht
      have hgt := t_adv_gt hX h0 hlt
      refine ca_aload_nr h dX12_compileFactor_57 rfl ?_
      refine gi_X12_301 h (hs.1 _ _ _ ⟨rfl, rfl⟩) dX12_compileFactor_58 ?_
      refine ca_top (show _ = (t_adv q) 12 0 1 by rw [up_s]; exact hX9.1.2.2.1) ?_
      refine ca_if_ne (tgt := 68) h dX12_compileFactor_61 (by decide) (fun c_61 => ?_) (fun c_61 => ?_)
      · exact absurd (by rw [t_adv_1]; exact h0) c_61
      ·
        refine ca_aload_nr h dX12_compileFactor_64 rfl ?_
        refine ca_vXv h hG ml_X12_390 (c_X12_compileTest_o4 hs (q := t_adv q) (n := n) (by rw [up_s]; exact hX9) hmc h02 (by rw [t_adv_e]; exact he2) (by rw [up_s]; exact h20) (cs := cs) (fun _ => by obtain ⟨y1, y2⟩ := hCs h0; rw [up_s]; exact ⟨r_C_tf (r_C_20 y1) hf, by omega⟩)) (ci := 12) rfl rfl rfl (hs.1 _ _ _ ⟨rfl, rfl⟩) rfl rfl rfl rfl ⟨Nat.le_refl _, Nat.le_refl _⟩ rfl dX12_compileFactor_65 ?_
        intro μ8 hμ8
        obtain ⟨p2, C, rfl, hX8, hc8, h208, he8, hC8⟩ := hμ8
        rw [up_up]
        rw [up_s] at hc8
        rw [t_adv_e] at he8
        obtain ⟨R, hRq⟩ : ∃ z, z = e_tst (e_fac n 2) (t_adv q) := ⟨_, rfl⟩
        rw [← hRq] at hX8 he8 hC8
        have hle : t_s R.2 ≤ t_e R.2 := by have := hX8.2.1.2.2; have := hX8.2.1.1.2.2.2; omega
        refine ca_aload_nr h dX12_compileFactor_68 rfl ?_
        refine ca_bipush h dX12_compileFactor_69 bk_41 ?_
        refine ca_vXv h hG ml_X12_371 (c_X12_expect hs (q := R.2) (by rw [up_s]; exact hX8) (a := 22) (by decide) (by decide) (by decide)) (ci := 12) rfl rfl rfl (hs.1 _ _ _ ⟨rfl, rfl⟩) rfl rfl rfl rfl ⟨Nat.le_refl _, Nat.le_refl _⟩ rfl dX12_compileFactor_71 ?_
        intro μ7 hμ7
        obtain ⟨p3, rfl, hX7, hf7⟩ := hμ7
        rw [up_up]
        rw [up_s] at hf7
        refine ca_aload_nr h dX12_compileFactor_74 rfl ?_
        refine ca_dup h dX12_compileFactor_75 rfl ?_
        refine gi_X12_304 h (hs.1 _ _ _ ⟨rfl, rfl⟩) dX12_compileFactor_76 ?_
        refine ca_iconst h dX12_compileFactor_79 ik_1 ?_
        refine ca_isub h dX12_compileFactor_80 ?_
        refine pi_X12_304 h (hs.1 _ _ _ ⟨rfl, rfl⟩) dX12_compileFactor_81 ?_
        refine ca_mem (μ'' := up μ 16 (nw p3 22 0 20 3)) (by rw [ch_st_nw, up_s, up_up, hf7.2 20 (by omega), h208]; rfl) ?_
        refine ca_goto (tgt := 160) h dX12_compileFactor_84 (by decide) ?_
        refine ca_vreturn h hR dX12_compileFactor_160 ?_
        have er : e_fac n 3 q = (R.1, t_exp R.2 22) := by rw [e_fac_s, if_neg ht1, if_pos ht, ← hRq]
        rw [er]
        refine ⟨rfl, rfl, _, C, rfl, r_X1_20 hX7, r_tc_tr (r_tc_tr (r_tc_tr (r_tc_tr r_tc_20 (r_tc_tf hf)) hc8) (r_tc_tf hf7)) r_tc_20, by rw [nw_at, if_pos ⟨rfl, rfl, rfl⟩], ?_, fun z => ?_⟩
        · show t_e (t_exp R.2 22) = t_e q
          rw [← he8]
          unfold t_exp
          split
          · exact t_adv_e _
          · unfold t_e; rw [t_fail_at (by decide)]
        · obtain ⟨g0, g1, -⟩ := mo_exp hX8.2.1 (by decide) z
          obtain ⟨z0, z1, z2, z3⟩ := hC8 g0
          exact ⟨h0, r_C_20 (r_C_tf z1 hf7), z2, by show C.length + t_s q ≤ t_s (t_exp R.2 22); omega⟩
  ·
    have ht : t_is q 10 = true := bI_n0.mp c_7
    refine ca_aload_nr h dX12_compileFactor_10 rfl ?_
    refine ca_vXv h hG ml_X12_384 (c_X12_enter hs hX (o := 3) hO (by decide)) (ci := 12) rfl rfl rfl (hs.1 _ _ _ ⟨rfl, rfl⟩) rfl rfl rfl rfl ⟨Nat.le_refl _, Nat.le_refl _⟩ rfl dX12_compileFactor_11 ?_
    intro μ9 hμ9
    obtain ⟨p, rfl, hX9, hf⟩ := hμ9
    have h20 : p 22 0 20 = nI 4 := by rw [hf.2 20 (by omega), nw_at, if_pos ⟨rfl, rfl, rfl⟩]
    have hx5 := hX.2.1
    have hlt := (t_is_kind hX ht (by decide)).2
    have h0 := t_is_0 ht
    have hgt := t_adv_gt hX h0 hlt
    refine ca_aload_nr h dX12_compileFactor_14 rfl ?_
    refine gi_X12_301 h (hs.1 _ _ _ ⟨rfl, rfl⟩) dX12_compileFactor_15 ?_
    refine ca_top (show _ = (t_adv q) 12 0 1 by rw [up_s]; exact hX9.1.2.2.1) ?_
    refine ca_if_ne (tgt := 25) h dX12_compileFactor_18 (by decide) (fun c_18 => ?_) (fun c_18 => ?_)
    · exact absurd (by rw [t_adv_1]; exact h0) c_18
    ·
      refine ca_aload_nr h dX12_compileFactor_21 rfl ?_
      refine ca_vXv h hG ml_X12_387 (c_X12_compileFactor_o4 hs (q := t_adv q) (n := n) (by rw [up_s]; exact hX9) hmc h02 (by rw [t_adv_e]; exact he2) (by rw [up_s]; exact h20) (cs := cs) (fun _ => by obtain ⟨y1, y2⟩ := hCs h0; rw [up_s]; exact ⟨r_C_tf (r_C_20 y1) hf, by omega⟩)) (ci := 12) rfl rfl rfl (hs.1 _ _ _ ⟨rfl, rfl⟩) rfl rfl rfl rfl ⟨Nat.le_refl _, Nat.le_refl _⟩ rfl dX12_compileFactor_22 ?_
      intro μ8 hμ8
      obtain ⟨p2, C, rfl, hX8, hc8, h208, he8, hC8⟩ := hμ8
      rw [up_up]
      rw [up_s] at hc8
      rw [t_adv_e] at he8
      obtain ⟨R, hRq⟩ : ∃ z, z = e_fac n 2 (t_adv q) := ⟨_, rfl⟩
      rw [← hRq] at hX8 he8 hC8
      have hle : t_s R.2 ≤ t_e R.2 := by have := hX8.2.1.2.2; have := hX8.2.1.1.2.2.2; omega
      refine ca_aload_nr h dX12_compileFactor_25 rfl ?_
      refine ca_bipush h dX12_compileFactor_26 bk_m23 ?_
      refine ca_vXv h hG ml_X12_379 (c_X12_emit hs (q := R.2) (by rw [up_s]; exact hX8) (cs := cs ++ C) (fun z => by obtain ⟨z0, z1, z2, z3⟩ := hC8 z; obtain ⟨y1, y2⟩ := hCs h0; rw [up_s]; exact ⟨z1, by rw [List.length_append]; omega⟩)) (ci := 12) rfl rfl rfl (hs.1 _ _ _ ⟨rfl, rfl⟩) rfl rfl rfl rfl ⟨Nat.le_refl _, Nat.le_refl _⟩ rfl dX12_compileFactor_28 ?_
      intro μ7 hμ7
      obtain ⟨p3, rfl, hX7, hc7, h207, hC7⟩ := hμ7
      rw [up_up]
      rw [up_s] at hc7 h207
      refine ca_aload_nr h dX12_compileFactor_31 rfl ?_
      refine ca_dup h dX12_compileFactor_32 rfl ?_
      refine gi_X12_304 h (hs.1 _ _ _ ⟨rfl, rfl⟩) dX12_compileFactor_33 ?_
      refine ca_iconst h dX12_compileFactor_36 ik_1 ?_
      refine ca_isub h dX12_compileFactor_37 ?_
      refine pi_X12_304 h (hs.1 _ _ _ ⟨rfl, rfl⟩) dX12_compileFactor_38 ?_
      refine ca_mem (μ'' := up μ 16 (nw p3 22 0 20 3)) (by rw [ch_st_nw, up_s, up_up, h207, h208]; rfl) ?_
      refine ca_goto (tgt := 160) h dX12_compileFactor_41 (by decide) ?_
      refine ca_vreturn h hR dX12_compileFactor_160 ?_
      have er : e_fac n 3 q = (e_all n &&& (R.1 ^^^ -1), R.2) := by rw [e_fac_s, if_pos ht, ← hRq]
      rw [er]
      refine ⟨rfl, rfl, _, C ++ [-23], rfl, r_X1_20 hX7, r_tc_tr (r_tc_tr (r_tc_tr (r_tc_tr r_tc_20 (r_tc_tf hf)) hc8) hc7) r_tc_20, by rw [nw_at, if_pos ⟨rfl, rfl, rfl⟩], he8, fun z => ?_⟩
      obtain ⟨z0, z1, z2, z3⟩ := hC8 z
      refine ⟨h0, r_C_20 (by rw [← List.append_assoc]; exact hC7 z), cg_not hmc h02 z2, ?_⟩
      rw [List.length_append]
      have : [(-23 : Int32)].length = 1 := rfl
      show C.length + [(-23 : Int32)].length + t_s q ≤ t_s R.2
      omega
set_option maxHeartbeats 400000 in
theorem c_X12_compileConjunction_o3 {l : Launch} {E : ch_E} {S : ch_S} {μ : ch_M} (hs : ch_Std E S) {q : ch_N} (hX : r_X1 q (μ 16)) {n : ch_N} (hmc : k_mc n ≤ 12) (h02 : ¬ n 0 0 2 < 0) (he2 : t_e q ≤ 200) (hO : μ 16 22 0 20 = 3) {cs : List Int32} (hCs : q 12 0 1 = 0 → r_C (μ 16) cs ∧ cs.length ≤ t_s q) : ch_C E l yX12_compileConjunction cX12_compileConjunction 1 none 17 0 0 S μ [.ref (S.1 16 22 0)] (r_CJ (e_fac n 3) n q cs 3 S μ) := by
  refine ch_enter rfl rfl ?_
  intro X hl0 h hG hR hnm
  have h : ch_H X E RX12 cX12_compileConjunction 1 := h
  show ch_W X E 1 S μ 0 0 0 [(0, .ref (S.1 16 22 0))] []
  refine ca_aload_nr h dX12_compileConjunction_0 rfl ?_
  refine ca_vXv h hG ml_X12_387 (c_X12_compileFactor_o3 hs (q := q) (n := n) hX hmc h02 he2 hO (cs := cs) hCs) (ci := 12) rfl rfl rfl (hs.1 _ _ _ ⟨rfl, rfl⟩) rfl rfl rfl rfl ⟨Nat.le_refl _, Nat.le_refl _⟩ rfl dX12_compileConjunction_1 ?_
  intro μ8 hμ8
  obtain ⟨p1, C1, rfl, hX1, hc1, h201, he1, hC1⟩ := hμ8
  obtain ⟨R1, hR1⟩ : ∃ z, z = e_fac n 3 q := ⟨_, rfl⟩
  rw [← hR1] at hX1 he1 hC1
  have hmo1 := mo_fac n 3 q hX.2.1
  rw [← hR1] at hmo1
  have loop_4 : ∀ (jj k : Nat), k + jj = 200 → ∀ (qc : ch_N) (x : Int32) (C : List Int32) (p : ch_N) (hXc : r_X1 qc p) (hpc : r_tc (μ 16) p) (hec : t_e qc = t_e q) (hsc : t_s q ≤ t_s qc) (hrem : t_e q - t_s qc ≤ jj) (h20 : p 22 0 20 = 3) (heq : ∀ a j0, t_e q - t_s ((e_fac n 3) q).2 ≤ j0 → ∃ j1, t_e q - t_s qc ≤ j1 ∧ e_tL (e_fac n 3) j0 (a, ((e_fac n 3) q).1, ((e_fac n 3) q).2) = e_tL (e_fac n 3) j1 (a, x, qc)) (hCc : qc 12 0 1 = 0 → q 12 0 1 = 0 ∧ r_C p (cs ++ C) ∧ r_cg n C x ∧ C.length + t_s q ≤ t_s qc) (mm : ch_M) (em : mm = up μ 16 p), ch_W X E 1 S mm 0 0 4 [(0, .ref (S.1 16 22 0))] [] := by
    intro jj
    induction jj with
    | zero =>
      intro k hn qc x C p hXc hpc hec hsc hrem h20 heq hCc mm em
      have hn : k = 200 := by omega
      subst em
      refine ca_aload_nr h dX12_compileConjunction_4 rfl ?_
      refine ca_ldcws h (i := 396) (List.mem_of_getElem? (i := 39) rfl) dX12_compileConjunction_5 ?_
      refine ca_vXi h hG ml_X12_398 (c_X12_accept hs (q := qc) (by rw [up_s]; exact hXc) (a := 24) (by decide) (by decide) (by decide)) (ci := 12) rfl rfl rfl (hs.1 _ _ _ ⟨rfl, rfl⟩) rfl rfl rfl rfl ⟨Nat.le_refl _, Nat.le_refl _⟩ rfl dX12_compileConjunction_8 ?_
      intro μ9 hμ9
      obtain ⟨p2, rfl, hX2, hf2⟩ := hμ9
      rw [up_up]
      rw [up_s] at hf2
      refine ca_if_eq (tgt := 27) h dX12_compileConjunction_11 (by decide) (fun c_11 => ?_) (fun c_11 => ?_)
      ·
        have ht : ¬ t_is qc 24 = true := fun z => bI_n0.mpr z c_11
        rw [if_neg ht] at hX2
        refine ca_vreturn h hR dX12_compileConjunction_27 ?_
        exact ⟨rfl, rfl, p2, C, x, qc, rfl, hX2, r_tc_tr hpc (r_tc_tf hf2), by rw [hf2.2 20 (by omega)]; exact h20, hec, hsc, ht, heq, fun z => by
          obtain ⟨z0, z1, z2, z3⟩ := hCc z
          exact ⟨z0, r_C_tf z1 hf2, z2, z3⟩⟩
      · exact absurd (t_is_kind hXc (bI_n0.mp c_11) (by decide)).2 (by omega)
    | succ jj ih_4 =>
      intro k hn qc x C p hXc hpc hec hsc hrem h20 heq hCc mm em
      have hn1 : k < 200 := by omega
      subst em
      refine ca_aload_nr h dX12_compileConjunction_4 rfl ?_
      refine ca_ldcws h (i := 396) (List.mem_of_getElem? (i := 39) rfl) dX12_compileConjunction_5 ?_
      refine ca_vXi h hG ml_X12_398 (c_X12_accept hs (q := qc) (by rw [up_s]; exact hXc) (a := 24) (by decide) (by decide) (by decide)) (ci := 12) rfl rfl rfl (hs.1 _ _ _ ⟨rfl, rfl⟩) rfl rfl rfl rfl ⟨Nat.le_refl _, Nat.le_refl _⟩ rfl dX12_compileConjunction_8 ?_
      intro μ9 hμ9
      obtain ⟨p2, rfl, hX2, hf2⟩ := hμ9
      rw [up_up]
      rw [up_s] at hf2
      refine ca_if_eq (tgt := 27) h dX12_compileConjunction_11 (by decide) (fun c_11 => ?_) (fun c_11 => ?_)
      ·
        have ht : ¬ t_is qc 24 = true := fun z => bI_n0.mpr z c_11
        rw [if_neg ht] at hX2
        refine ca_vreturn h hR dX12_compileConjunction_27 ?_
        exact ⟨rfl, rfl, p2, C, x, qc, rfl, hX2, r_tc_tr hpc (r_tc_tf hf2), by rw [hf2.2 20 (by omega)]; exact h20, hec, hsc, ht, heq, fun z => by
          obtain ⟨z0, z1, z2, z3⟩ := hCc z
          exact ⟨z0, r_C_tf z1 hf2, z2, z3⟩⟩
      ·
        have ht : t_is qc 24 = true := bI_n0.mp c_11
        rw [if_pos ht] at hX2
        have h0 := t_is_0 ht
        have hlt := (t_is_kind hXc ht (by decide)).2
        have hgt := t_adv_gt hXc h0 hlt
        refine ca_aload_nr h dX12_compileConjunction_14 rfl ?_
        refine ca_vXv h hG ml_X12_387 (c_X12_compileFactor_o3 hs (q := t_adv qc) (n := n) (by rw [up_s]; exact hX2) hmc h02 (by rw [t_adv_e, hec]; exact he2) (by rw [up_s, hf2.2 20 (by omega)]; exact h20) (cs := cs ++ C) (fun _ => by obtain ⟨z0, z1, z2, z3⟩ := hCc h0; obtain ⟨y1, y2⟩ := hCs z0; rw [up_s]; exact ⟨r_C_tf z1 hf2, by rw [List.length_append]; omega⟩)) (ci := 12) rfl rfl rfl (hs.1 _ _ _ ⟨rfl, rfl⟩) rfl rfl rfl rfl ⟨Nat.le_refl _, Nat.le_refl _⟩ rfl dX12_compileConjunction_15 ?_
        intro μ8 hμ8
        obtain ⟨p3, D, rfl, hX3, hc3, h203, he3, hC3⟩ := hμ8
        rw [up_up]
        rw [up_s] at hc3
        rw [t_adv_e] at he3
        obtain ⟨R, hR⟩ : ∃ z, z = e_fac n 3 (t_adv qc) := ⟨_, rfl⟩
        rw [← hR] at hX3 he3 hC3
        have hmoR := mo_fac n 3 (t_adv qc) hX2.2.1
        rw [← hR] at hmoR
        have hle : t_s R.2 ≤ t_e R.2 := by have := hX3.2.1.2.2; have := hX3.2.1.1.2.2.2; omega
        refine ca_aload_nr h dX12_compileConjunction_18 rfl ?_
        refine ca_bipush h dX12_compileConjunction_19 bk_m24 ?_
        refine ca_vXv h hG ml_X12_379 (c_X12_emit hs (q := R.2) (by rw [up_s]; exact hX3) (cs := cs ++ C ++ D) (fun z => by obtain ⟨a0, a1, a2, a3⟩ := hC3 z; obtain ⟨z0, z1, z2, z3⟩ := hCc h0; obtain ⟨y1, y2⟩ := hCs z0; rw [up_s]; exact ⟨a1, by rw [List.length_append, List.length_append]; omega⟩)) (ci := 12) rfl rfl rfl (hs.1 _ _ _ ⟨rfl, rfl⟩) rfl rfl rfl rfl ⟨Nat.le_refl _, Nat.le_refl _⟩ rfl dX12_compileConjunction_21 ?_
        intro μ7 hμ7
        obtain ⟨p4, rfl, hX4, hc4, h204, hC4⟩ := hμ7
        rw [up_up]
        rw [up_s] at hc4 h204
        refine ca_goto (tgt := 4) h dX12_compileConjunction_24 (by decide) ?_
        refine ca_pick [0] rfl ?_
        exact ih_4 (k + 1) (by omega) R.2 (x &&& R.1) (C ++ D ++ [-24]) p4 hX4 (r_tc_tr (r_tc_tr (r_tc_tr hpc (r_tc_tf hf2)) hc3) hc4) (he3.trans hec) (by have := hmoR.2.1; omega) (by have := hmoR.2.1; omega) (h204.trans h203) (fun a j0 hj => by
          obtain ⟨j1, g1, g2⟩ := heq a j0 hj
          obtain ⟨j2, rfl⟩ : ∃ j2, j1 = j2 + 1 := ⟨j1 - 1, by omega⟩
          refine ⟨j2, by have := hmoR.2.1; omega, ?_⟩
          rw [g2, e_tL_s, if_neg (and_or ht), if_pos ht, ← hR]) (fun z => by
          obtain ⟨a0, a1, a2, a3⟩ := hC3 z
          obtain ⟨z0, z1, z2, z3⟩ := hCc h0
          refine ⟨z0, by rw [← List.append_assoc, ← List.append_assoc]; exact hC4 z, cg_and hmc z2 a2, ?_⟩
          rw [List.length_append, List.length_append]
          show C.length + D.length + 1 + t_s q ≤ t_s R.2
          omega) _ rfl
  refine ca_pick [0] rfl ?_
  exact loop_4 200 0 (Nat.zero_add _) R1.2 R1.1 C1 p1 hX1 hc1 he1 hmo1.2.1 (by omega) h201 (fun a j0 hj => ⟨j0, by rw [hR1]; exact hj, by rw [hR1]⟩) hC1 _ rfl
set_option maxHeartbeats 400000 in
theorem c_X12_compileTest_o3 {l : Launch} {E : ch_E} {S : ch_S} {μ : ch_M} (hs : ch_Std E S) {q : ch_N} (hX : r_X1 q (μ 16)) {n : ch_N} (hmc : k_mc n ≤ 12) (h02 : ¬ n 0 0 2 < 0) (he2 : t_e q ≤ 200) (hO : μ 16 22 0 20 = 3) {cs : List Int32} (hCs : q 12 0 1 = 0 → r_C (μ 16) cs ∧ cs.length ≤ t_s q) : ch_C E l yX12_compileTest cX12_compileTest 1 none 18 0 0 S μ [.ref (S.1 16 22 0)] (r_CP n q cs (e_tst (e_fac n 3) q) 3 S μ) := by
  refine ch_enter rfl rfl ?_
  intro X hl0 h hG hR hnm
  have h : ch_H X E RX12 cX12_compileTest 1 := h
  show ch_W X E 1 S μ 0 0 0 [(0, .ref (S.1 16 22 0))] []
  refine ca_aload_nr h dX12_compileTest_0 rfl ?_
  refine ca_vXv h hG ml_X12_401 (c_X12_compileConjunction_o3 hs (q := q) (n := n) hX hmc h02 he2 hO (cs := cs) hCs) (ci := 12) rfl rfl rfl (hs.1 _ _ _ ⟨rfl, rfl⟩) rfl rfl rfl rfl ⟨Nat.le_refl _, Nat.le_refl _⟩ rfl dX12_compileTest_1 ?_
  intro μ8 hμ8
  obtain ⟨p1, C1, x1, q1, rfl, hX1, hc1, h201, he1, hs1, hn1x, hq1, hC1⟩ := hμ8
  have hin1 : ∃ jc, t_e q - t_s q1 ≤ jc ∧ e_tR (e_fac n 3) q = e_tL (e_fac n 3) jc (0, x1, q1) := by
    obtain ⟨j1, g1, g2⟩ := hq1 0 200 (by omega)
    exact ⟨j1, g1, g2⟩
  have loop_4 : ∀ (jj k : Nat), k + jj = 200 → ∀ (a : Int32) (qc : ch_N) (x : Int32) (C : List Int32) (p : ch_N) (hXc : r_X1 qc p) (hpc : r_tc (μ 16) p) (hec : t_e qc = t_e q) (hsc : t_s q ≤ t_s qc) (hrem : t_e q - t_s qc ≤ jj) (h20 : p 22 0 20 = 3) (hna : ¬ t_is qc 24 = true) (heq : ∃ jc, t_e q - t_s qc ≤ jc ∧ e_tR (e_fac n 3) q = e_tL (e_fac n 3) jc (a, x, qc)) (hCc : qc 12 0 1 = 0 → q 12 0 1 = 0 ∧ r_C p (cs ++ C) ∧ r_cg n C (a ||| x) ∧ C.length + t_s q ≤ t_s qc) (mm : ch_M) (em : mm = up μ 16 p), ch_W X E 1 S mm 0 0 4 [(0, .ref (S.1 16 22 0))] [] := by
    intro jj
    induction jj with
    | zero =>
      intro k hn a qc x C p hXc hpc hec hsc hrem h20 hna heq hCc mm em
      have hn : k = 200 := by omega
      subst em
      refine ca_aload_nr h dX12_compileTest_4 rfl ?_
      refine ca_ldcws h (i := 404) (List.mem_of_getElem? (i := 40) rfl) dX12_compileTest_5 ?_
      refine ca_vXi h hG ml_X12_398 (c_X12_accept hs (q := qc) (by rw [up_s]; exact hXc) (a := 23) (by decide) (by decide) (by decide)) (ci := 12) rfl rfl rfl (hs.1 _ _ _ ⟨rfl, rfl⟩) rfl rfl rfl rfl ⟨Nat.le_refl _, Nat.le_refl _⟩ rfl dX12_compileTest_8 ?_
      intro μ9 hμ9
      obtain ⟨p2, rfl, hX2, hf2⟩ := hμ9
      rw [up_up]
      rw [up_s] at hf2
      refine ca_if_eq (tgt := 27) h dX12_compileTest_11 (by decide) (fun c_11 => ?_) (fun c_11 => ?_)
      ·
        have ht : ¬ t_is qc 23 = true := fun z => bI_n0.mpr z c_11
        rw [if_neg ht] at hX2
        refine ca_vreturn h hR dX12_compileTest_27 ?_
        obtain ⟨jc, g1, g2⟩ := heq
        have hst : e_tL (e_fac n 3) jc (a, x, qc) = (a, x, qc) := by
          cases jc with
          | zero => rfl
          | succ j2 => rw [e_tL_s, if_neg ht, if_neg hna]
        have er : e_tst (e_fac n 3) q = (a ||| x, qc) := by unfold e_tst; rw [g2, hst]
        rw [er]
        exact ⟨rfl, rfl, p2, C, rfl, hX2, r_tc_tr hpc (r_tc_tf hf2), by rw [hf2.2 20 (by omega)]; exact h20, hec, fun z => by
          obtain ⟨z0, z1, z2, z3⟩ := hCc z
          exact ⟨z0, r_C_tf z1 hf2, z2, z3⟩⟩
      · exact absurd (t_is_kind hXc (bI_n0.mp c_11) (by decide)).2 (by omega)
    | succ jj ih_4 =>
      intro k hn a qc x C p hXc hpc hec hsc hrem h20 hna heq hCc mm em
      have hn1 : k < 200 := by omega
      subst em
      refine ca_aload_nr h dX12_compileTest_4 rfl ?_
      refine ca_ldcws h (i := 404) (List.mem_of_getElem? (i := 40) rfl) dX12_compileTest_5 ?_
      refine ca_vXi h hG ml_X12_398 (c_X12_accept hs (q := qc) (by rw [up_s]; exact hXc) (a := 23) (by decide) (by decide) (by decide)) (ci := 12) rfl rfl rfl (hs.1 _ _ _ ⟨rfl, rfl⟩) rfl rfl rfl rfl ⟨Nat.le_refl _, Nat.le_refl _⟩ rfl dX12_compileTest_8 ?_
      intro μ9 hμ9
      obtain ⟨p2, rfl, hX2, hf2⟩ := hμ9
      rw [up_up]
      rw [up_s] at hf2
      refine ca_if_eq (tgt := 27) h dX12_compileTest_11 (by decide) (fun c_11 => ?_) (fun c_11 => ?_)
      ·
        have ht : ¬ t_is qc 23 = true := fun z => bI_n0.mpr z c_11
        rw [if_neg ht] at hX2
        refine ca_vreturn h hR dX12_compileTest_27 ?_
        obtain ⟨jc, g1, g2⟩ := heq
        have hst : e_tL (e_fac n 3) jc (a, x, qc) = (a, x, qc) := by
          cases jc with
          | zero => rfl
          | succ j2 => rw [e_tL_s, if_neg ht, if_neg hna]
        have er : e_tst (e_fac n 3) q = (a ||| x, qc) := by unfold e_tst; rw [g2, hst]
        rw [er]
        exact ⟨rfl, rfl, p2, C, rfl, hX2, r_tc_tr hpc (r_tc_tf hf2), by rw [hf2.2 20 (by omega)]; exact h20, hec, fun z => by
          obtain ⟨z0, z1, z2, z3⟩ := hCc z
          exact ⟨z0, r_C_tf z1 hf2, z2, z3⟩⟩
      ·
        have ht : t_is qc 23 = true := bI_n0.mp c_11
        rw [if_pos ht] at hX2
        have h0 := t_is_0 ht
        have hlt := (t_is_kind hXc ht (by decide)).2
        have hgt := t_adv_gt hXc h0 hlt
        refine ca_aload_nr h dX12_compileTest_14 rfl ?_
        refine ca_vXv h hG ml_X12_401 (c_X12_compileConjunction_o3 hs (q := t_adv qc) (n := n) (by rw [up_s]; exact hX2) hmc h02 (by rw [t_adv_e, hec]; exact he2) (by rw [up_s, hf2.2 20 (by omega)]; exact h20) (cs := cs ++ C) (fun _ => by obtain ⟨z0, z1, z2, z3⟩ := hCc h0; obtain ⟨y1, y2⟩ := hCs z0; rw [up_s]; exact ⟨r_C_tf z1 hf2, by rw [List.length_append]; omega⟩)) (ci := 12) rfl rfl rfl (hs.1 _ _ _ ⟨rfl, rfl⟩) rfl rfl rfl rfl ⟨Nat.le_refl _, Nat.le_refl _⟩ rfl dX12_compileTest_15 ?_
        intro μ8 hμ8
        obtain ⟨p3, D, x3, q3, rfl, hX3, hc3, h203, he3, hs3, hn3x, hq3, hC3⟩ := hμ8
        rw [up_up]
        rw [up_s] at hc3
        rw [t_adv_e] at he3 hq3
        have hle : t_s q3 ≤ t_e q3 := by have := hX3.2.1.2.2; have := hX3.2.1.1.2.2.2; omega
        refine ca_aload_nr h dX12_compileTest_18 rfl ?_
        refine ca_bipush h dX12_compileTest_19 bk_m25 ?_
        refine ca_vXv h hG ml_X12_379 (c_X12_emit hs (q := q3) (by rw [up_s]; exact hX3) (cs := cs ++ C ++ D) (fun z => by obtain ⟨a0, a1, a2, a3⟩ := hC3 z; obtain ⟨z0, z1, z2, z3⟩ := hCc h0; obtain ⟨y1, y2⟩ := hCs z0; rw [up_s]; exact ⟨a1, by rw [List.length_append, List.length_append]; omega⟩)) (ci := 12) rfl rfl rfl (hs.1 _ _ _ ⟨rfl, rfl⟩) rfl rfl rfl rfl ⟨Nat.le_refl _, Nat.le_refl _⟩ rfl dX12_compileTest_21 ?_
        intro μ7 hμ7
        obtain ⟨p4, rfl, hX4, hc4, h204, hC4⟩ := hμ7
        rw [up_up]
        rw [up_s] at hc4 h204
        refine ca_goto (tgt := 4) h dX12_compileTest_24 (by decide) ?_
        refine ca_pick [0] rfl ?_
        obtain ⟨jc, g1, g2⟩ := heq
        obtain ⟨j2, rfl⟩ : ∃ j2, jc = j2 + 1 := ⟨jc - 1, by omega⟩
        rw [e_tL_s, if_pos ht] at g2
        have hmoR := mo_fac n 3 (t_adv qc) hX2.2.1
        obtain ⟨j3, g3, g4⟩ := hq3 (a ||| x) j2 (by have := hmoR.2.1; rw [hec]; omega)
        exact ih_4 (k + 1) (by omega) (a ||| x) q3 x3 (C ++ D ++ [-25]) p4 hX4 (r_tc_tr (r_tc_tr (r_tc_tr hpc (r_tc_tf hf2)) hc3) hc4) (he3.trans hec) (by omega) (by omega) (h204.trans h203) hn3x ⟨j3, by rw [← hec]; exact g3, g2.trans g4⟩ (fun z => by
          obtain ⟨a0, a1, a2, a3⟩ := hC3 z
          obtain ⟨z0, z1, z2, z3⟩ := hCc h0
          refine ⟨z0, by rw [← List.append_assoc, ← List.append_assoc]; exact hC4 z, cg_or hmc z2 a2, ?_⟩
          rw [List.length_append, List.length_append]
          show C.length + D.length + 1 + t_s q ≤ t_s q3
          omega) _ rfl
  refine ca_pick [0] rfl ?_
  exact loop_4 200 0 (Nat.zero_add _) 0 q1 x1 C1 p1 hX1 hc1 he1 hs1 (by omega) h201 hn1x hin1 (fun z => by obtain ⟨z0, z1, z2, z3⟩ := hC1 z; exact ⟨z0, z1, r_cg_0 z2, z3⟩) _ rfl
set_option maxHeartbeats 400000 in
theorem c_X12_compileFactor_o2 {l : Launch} {E : ch_E} {S : ch_S} {μ : ch_M} (hs : ch_Std E S) {q : ch_N} (hX : r_X1 q (μ 16)) {n : ch_N} (hmc : k_mc n ≤ 12) (h02 : ¬ n 0 0 2 < 0) (he2 : t_e q ≤ 200) (hO : μ 16 22 0 20 = 2) {cs : List Int32} (hCs : q 12 0 1 = 0 → r_C (μ 16) cs ∧ cs.length ≤ t_s q) : ch_C E l yX12_compileFactor cX12_compileFactor 2 none 19 0 0 S μ [.ref (S.1 16 22 0)] (r_CP n q cs (e_fac n 4 q) 2 S μ) := by
  refine ch_enter rfl rfl ?_
  intro X hl0 h hG hR hnm
  have h : ch_H X E RX12 cX12_compileFactor 2 := h
  show ch_W X E 2 S μ 0 0 0 [(0, .ref (S.1 16 22 0))] []
  refine ca_aload_nr h dX12_compileFactor_0 rfl ?_
  refine ca_ldcws h (i := 382) (List.mem_of_getElem? (i := 38) rfl) dX12_compileFactor_1 ?_
  refine ca_vi h hG ml_X12_324 (c_X12_isWord hs hX (a := 10) (by decide) (by decide) (by decide)) (ci := 12) rfl rfl rfl (hs.1 _ _ _ ⟨rfl, rfl⟩) rfl rfl rfl rfl ⟨Nat.le_refl _, Nat.le_refl _⟩ rfl dX12_compileFactor_4 ?_
  refine ca_if_eq (tgt := 44) h dX12_compileFactor_7 (by decide) (fun c_7 => ?_) (fun c_7 => ?_)
  ·
    refine ca_aload_nr h dX12_compileFactor_44 rfl ?_
    refine ca_bipush h dX12_compileFactor_45 bk_40 ?_
    refine ca_vi h hG ml_X12_335 (c_X12_isSymbol hs hX (a := 11) (by decide) (by decide) (by decide)) (ci := 12) rfl rfl rfl (hs.1 _ _ _ ⟨rfl, rfl⟩) rfl rfl rfl rfl ⟨Nat.le_refl _, Nat.le_refl _⟩ rfl dX12_compileFactor_47 ?_
    refine ca_if_eq (tgt := 87) h dX12_compileFactor_50 (by decide) (fun c_50 => ?_) (fun c_50 => ?_)
    ·
      have ht1 : ¬ t_is q 10 = true := fun z => bI_n0.mpr z c_7
      have ht2 : ¬ t_is q 11 = true := fun z => bI_n0.mpr z c_50
      refine ca_aload_nr h dX12_compileFactor_87 rfl ?_
      refine ca_vXv h hG ml_X12_393 (c_X12_compileValue hs hX he2 hCs) (ci := 12) rfl rfl rfl (hs.1 _ _ _ ⟨rfl, rfl⟩) rfl rfl rfl rfl ⟨Nat.le_refl _, Nat.le_refl _⟩ rfl dX12_compileFactor_88 ?_
      intro μ9 hμ9
      obtain ⟨p1, rfl, hX1, hc1, h201, hC1⟩ := hμ9
      obtain ⟨V1, hV1⟩ : ∃ z, z = (e_sv q).1 := ⟨_, rfl⟩
      have hq1 : t_adv (e_sv q).2 = e_q1 q := rfl
      have hm1 := mo_sv q hX.2.1
      rw [hq1, ← hV1] at hC1
      rw [hq1] at hX1 hm1
      obtain ⟨Q1, hQ1⟩ : ∃ z, z = e_q1 q := ⟨_, rfl⟩
      rw [← hQ1] at hX1 hC1 hm1
      refine ca_aload_nr h dX12_compileFactor_91 rfl ?_
      refine ca_bipush h dX12_compileFactor_92 bk_60 ?_
      refine ca_vi h hG ml_X12_335 (c_X12_isSymbol hs (q := Q1) (by rw [up_s]; exact hX1) (a := 19) (by decide) (by decide) (by decide)) (ci := 12) rfl rfl rfl (hs.1 _ _ _ ⟨rfl, rfl⟩) rfl rfl rfl rfl ⟨Nat.le_refl _, Nat.le_refl _⟩ rfl dX12_compileFactor_94 ?_
      refine ca_if_eq (tgt := 105) h dX12_compileFactor_97 (by decide) (fun c_97 => ?_) (fun c_97 => ?_)
      ·
        refine ca_aload_nr h dX12_compileFactor_105 rfl ?_
        refine ca_bipush h dX12_compileFactor_106 bk_61 ?_
        refine ca_vi h hG ml_X12_335 (c_X12_isSymbol hs (q := Q1) (by rw [up_s]; exact hX1) (a := 20) (by decide) (by decide) (by decide)) (ci := 12) rfl rfl rfl (hs.1 _ _ _ ⟨rfl, rfl⟩) rfl rfl rfl rfl ⟨Nat.le_refl _, Nat.le_refl _⟩ rfl dX12_compileFactor_108 ?_
        refine ca_if_eq (tgt := 119) h dX12_compileFactor_111 (by decide) (fun c_111 => ?_) (fun c_111 => ?_)
        ·
          refine ca_bipush h dX12_compileFactor_119 bk_m22 ?_
          refine ca_istore_n h dX12_compileFactor_121 rfl ?_
          refine ca_aload_nr h dX12_compileFactor_122 rfl ?_
          refine ca_iload_n h dX12_compileFactor_123 rfl ?_
          refine ca_bipush h dX12_compileFactor_124 bk_m22 ?_
          refine ca_icmp_ne (tgt := 138) h dX12_compileFactor_126 (by decide) (fun c_126 => ?_) (fun c_126 => ?_)
          · exact absurd rfl c_126
          ·
            refine ca_aload_nr h dX12_compileFactor_129 rfl ?_
            refine ca_bipush h dX12_compileFactor_130 bk_62 ?_
            refine ca_vi h hG ml_X12_335 (c_X12_isSymbol hs (q := Q1) (by rw [up_s]; exact hX1) (a := 21) (by decide) (by decide) (by decide)) (ci := 12) rfl rfl rfl (hs.1 _ _ _ ⟨rfl, rfl⟩) rfl rfl rfl rfl ⟨Nat.le_refl _, Nat.le_refl _⟩ rfl dX12_compileFactor_132 ?_
            refine ca_if_eq (tgt := 142) h dX12_compileFactor_135 (by decide) (fun c_135 => ?_) (fun c_135 => ?_)
            ·
              refine ca_iconst h dX12_compileFactor_142 ik_0 ?_
              have n19 : ¬ t_is Q1 19 = true := fun z => bI_n0.mpr z c_97
              have n20 : ¬ t_is Q1 20 = true := fun z => bI_n0.mpr z c_111
              have hop : (-22 : Int32) = if t_is Q1 19 = true then -20 else if t_is Q1 20 = true then -21 else -22 := by rw [if_neg n19, if_neg n20]
              have e143 : r_chk Q1 0 1 = e_q2 Q1 := by unfold e_q2; rw [if_neg n19, if_neg n20, if_neg (fun z => bI_n0.mpr z c_135)]; rfl
              have hq2f : ¬ (e_q2 Q1) 12 0 1 = 0 := by unfold e_q2; rw [if_neg n19, if_neg n20, if_neg (fun z => bI_n0.mpr z c_135)]; exact t_fail_ne (by decide)
              refine ca_iconst h dX12_compileFactor_143 ik_1 ?_
              refine ca_vXv h hG ml_X12_328 (c_X12_check hs (q := Q1) (by rw [up_s]; exact hX1)) (ci := 12) rfl rfl rfl (hs.1 _ _ _ ⟨rfl, rfl⟩) rfl rfl rfl rfl ⟨Nat.le_refl _, Nat.le_refl _⟩ rfl dX12_compileFactor_144 ?_
              intro μ9 hμ9
              obtain ⟨p2, rfl, hX2, hf2⟩ := hμ9
              rw [e143] at hX2
              rw [up_up]
              rw [up_s] at hf2
              refine ca_aload_nr h dX12_compileFactor_147 rfl ?_
              refine ca_vXv h hG ml_X12_332 (c_X12_advance hs (q := e_q2 Q1) (by rw [up_s]; exact hX2)) (ci := 12) rfl rfl rfl (hs.1 _ _ _ ⟨rfl, rfl⟩) rfl rfl rfl rfl ⟨Nat.le_refl _, Nat.le_refl _⟩ rfl dX12_compileFactor_148 ?_
              intro μ9 hμ9
              obtain ⟨p3, rfl, hX3, hf3⟩ := hμ9
              rw [up_up]
              rw [up_s] at hf3
              have hq3 : t_adv (e_q2 Q1) = e_q3 q := by rw [hQ1]; rfl
              obtain ⟨Q3, hQ3⟩ : ∃ z, z = e_q3 q := ⟨_, rfl⟩
              have hm3 : r_mo Q1 Q3 := by rw [hQ3, ← hq3]; exact mo_tr (mo_q2e Q1) (mo_adv _)
              have hm3 := hm3 hm1.2.2
              have hQ13 : Q3 = t_adv (e_q2 Q1) := by rw [hQ3, hq3]
              rw [← hQ13] at hX3
              have h31 : Q3 12 0 1 = 0 → Q1 12 0 1 = 0 ∧ t_s Q1 + 1 ≤ t_s Q3 := fun z => absurd (by rw [hQ13, t_adv_1] at z; exact z) hq2f
              refine ca_aload_nr h dX12_compileFactor_151 rfl ?_
              refine ca_vXv h hG ml_X12_393 (c_X12_compileValue hs (q := Q3) (by rw [up_s]; exact hX3) (by omega) (cs := cs ++ [V1]) (fun z => by obtain ⟨y0, y1, y2, y3⟩ := hC1 (h31 z).1; obtain ⟨w1, w2⟩ := hCs y0; rw [up_s]; exact ⟨r_C_tf (r_C_tf y1 hf2) hf3, by rw [List.length_append]; have : [V1].length = 1 := rfl; have := (h31 z).2; omega⟩)) (ci := 12) rfl rfl rfl (hs.1 _ _ _ ⟨rfl, rfl⟩) rfl rfl rfl rfl ⟨Nat.le_refl _, Nat.le_refl _⟩ rfl dX12_compileFactor_152 ?_
              intro μ9 hμ9
              obtain ⟨p4, rfl, hX4, hc4, h204, hC4⟩ := hμ9
              rw [up_up]
              rw [up_s] at hc4 h204
              obtain ⟨V2, hV2⟩ : ∃ z, z = (e_sv Q3).1 := ⟨_, rfl⟩
              have hm4 := mo_sv Q3 hX3.2.1
              obtain ⟨Q4, hQ4⟩ : ∃ z, z = t_adv (e_sv Q3).2 := ⟨_, rfl⟩
              rw [← hQ4] at hX4 hC4 hm4
              rw [← hV2] at hC4
              have hle4 : t_s Q4 ≤ t_e Q4 := by have := hX4.2.1.2.2; have := hX4.2.1.1.2.2.2; omega
              have hall : Q4 12 0 1 = 0 → q 12 0 1 = 0 ∧ r_C p4 (cs ++ [V1] ++ [V2]) ∧ -20 < V1 ∧ -20 < V2 ∧ t_s q + 3 ≤ t_s Q4 ∧ cs.length ≤ t_s q := fun z => by
                obtain ⟨a0, a1, a2, a3⟩ := hC4 z
                obtain ⟨b1, b2⟩ := h31 a0
                obtain ⟨y0, y1, y2, y3⟩ := hC1 b1
                exact ⟨y0, a1, y2, a2, by omega, (hCs y0).2⟩
              refine ca_aload_nr h dX12_compileFactor_155 rfl ?_
              refine ca_iload_n h dX12_compileFactor_156 rfl ?_
              refine ca_vXv h hG ml_X12_379 (c_X12_emit hs (q := Q4) (by rw [up_s]; exact hX4) (cs := cs ++ [V1] ++ [V2]) (fun z => by obtain ⟨a0, a1, a2, a3, a4, a5⟩ := hall z; rw [up_s]; exact ⟨a1, by rw [List.length_append, List.length_append]; have : [V1].length = 1 := rfl; have : [V2].length = 1 := rfl; omega⟩)) (ci := 12) rfl rfl rfl (hs.1 _ _ _ ⟨rfl, rfl⟩) rfl rfl rfl rfl ⟨Nat.le_refl _, Nat.le_refl _⟩ rfl dX12_compileFactor_157 ?_
              intro μ9 hμ9
              obtain ⟨p5, rfl, hX5, hc5, h205, hC5⟩ := hμ9
              rw [up_up]
              rw [up_s] at hc5 h205
              refine ca_vreturn h hR dX12_compileFactor_160 ?_
              have er : e_fac n 4 q = (e_hold n (t_is Q1 19) (t_is Q1 20) V1 V2 (k_mc n), Q4) := by rw [e_fac_c n q 4 ht1 ht2, e_cmp_e, ← hQ1, ← hQ3, ← hV1, ← hV2, ← hQ4]
              rw [er]
              refine ⟨rfl, rfl, _, [V1, V2, -22], rfl, hX5, r_tc_tr (r_tc_tr (r_tc_tr (r_tc_tr hc1 (r_tc_tf hf2)) (r_tc_tf hf3)) hc4) hc5, by rw [h205, h204, hf3.2 20 (by omega), hf2.2 20 (by omega), h201, hO], ?_, fun z => ?_⟩
              · show t_e Q4 = t_e q
                have := hm1.1; have := hm3.1; have := hm4.1; omega
              · obtain ⟨a0, a1, a2, a3, a4, a5⟩ := hall z
                have hcs : cs ++ [V1, V2, -22] = cs ++ [V1] ++ [V2] ++ [-22] := by simp
                exact ⟨a0, by rw [hcs]; exact hC5 z, cg_cmp hmc a2 a3 hop, by show 3 + t_s q ≤ t_s Q4; omega⟩
            ·
              refine ca_iconst h dX12_compileFactor_138 ik_1 ?_
              refine ca_goto (tgt := 143) h dX12_compileFactor_139 (by decide) ?_
              have n19 : ¬ t_is Q1 19 = true := fun z => bI_n0.mpr z c_97
              have n20 : ¬ t_is Q1 20 = true := fun z => bI_n0.mpr z c_111
              have hop : (-22 : Int32) = if t_is Q1 19 = true then -20 else if t_is Q1 20 = true then -21 else -22 := by rw [if_neg n19, if_neg n20]
              have e143 : r_chk Q1 1 1 = e_q2 Q1 := by unfold e_q2; rw [if_neg n19, if_neg n20, if_pos (bI_n0.mp c_135)]; rfl
              have hq2 : e_q2 Q1 = Q1 := by unfold e_q2; rw [if_neg n19, if_neg n20, if_pos (bI_n0.mp c_135)]
              have hlt1 : t_s Q1 < t_e Q1 := (t_is_kind hX1 (bI_n0.mp c_135) (by decide)).2
              refine ca_iconst h dX12_compileFactor_143 ik_1 ?_
              refine ca_vXv h hG ml_X12_328 (c_X12_check hs (q := Q1) (by rw [up_s]; exact hX1)) (ci := 12) rfl rfl rfl (hs.1 _ _ _ ⟨rfl, rfl⟩) rfl rfl rfl rfl ⟨Nat.le_refl _, Nat.le_refl _⟩ rfl dX12_compileFactor_144 ?_
              intro μ9 hμ9
              obtain ⟨p2, rfl, hX2, hf2⟩ := hμ9
              rw [e143] at hX2
              rw [up_up]
              rw [up_s] at hf2
              refine ca_aload_nr h dX12_compileFactor_147 rfl ?_
              refine ca_vXv h hG ml_X12_332 (c_X12_advance hs (q := e_q2 Q1) (by rw [up_s]; exact hX2)) (ci := 12) rfl rfl rfl (hs.1 _ _ _ ⟨rfl, rfl⟩) rfl rfl rfl rfl ⟨Nat.le_refl _, Nat.le_refl _⟩ rfl dX12_compileFactor_148 ?_
              intro μ9 hμ9
              obtain ⟨p3, rfl, hX3, hf3⟩ := hμ9
              rw [up_up]
              rw [up_s] at hf3
              have hq3 : t_adv (e_q2 Q1) = e_q3 q := by rw [hQ1]; rfl
              obtain ⟨Q3, hQ3⟩ : ∃ z, z = e_q3 q := ⟨_, rfl⟩
              have hm3 : r_mo Q1 Q3 := by rw [hQ3, ← hq3]; exact mo_tr (mo_q2e Q1) (mo_adv _)
              have hm3 := hm3 hm1.2.2
              have hQ13 : Q3 = t_adv (e_q2 Q1) := by rw [hQ3, hq3]
              rw [← hQ13] at hX3
              have h31 : Q3 12 0 1 = 0 → Q1 12 0 1 = 0 ∧ t_s Q1 + 1 ≤ t_s Q3 := fun z => by
                rw [hQ13, t_adv_1, hq2] at z
                exact ⟨z, by rw [hQ13, hq2]; exact t_adv_gt hX1 z hlt1⟩
              refine ca_aload_nr h dX12_compileFactor_151 rfl ?_
              refine ca_vXv h hG ml_X12_393 (c_X12_compileValue hs (q := Q3) (by rw [up_s]; exact hX3) (by omega) (cs := cs ++ [V1]) (fun z => by obtain ⟨y0, y1, y2, y3⟩ := hC1 (h31 z).1; obtain ⟨w1, w2⟩ := hCs y0; rw [up_s]; exact ⟨r_C_tf (r_C_tf y1 hf2) hf3, by rw [List.length_append]; have : [V1].length = 1 := rfl; have := (h31 z).2; omega⟩)) (ci := 12) rfl rfl rfl (hs.1 _ _ _ ⟨rfl, rfl⟩) rfl rfl rfl rfl ⟨Nat.le_refl _, Nat.le_refl _⟩ rfl dX12_compileFactor_152 ?_
              intro μ9 hμ9
              obtain ⟨p4, rfl, hX4, hc4, h204, hC4⟩ := hμ9
              rw [up_up]
              rw [up_s] at hc4 h204
              obtain ⟨V2, hV2⟩ : ∃ z, z = (e_sv Q3).1 := ⟨_, rfl⟩
              have hm4 := mo_sv Q3 hX3.2.1
              obtain ⟨Q4, hQ4⟩ : ∃ z, z = t_adv (e_sv Q3).2 := ⟨_, rfl⟩
              rw [← hQ4] at hX4 hC4 hm4
              rw [← hV2] at hC4
              have hle4 : t_s Q4 ≤ t_e Q4 := by have := hX4.2.1.2.2; have := hX4.2.1.1.2.2.2; omega
              have hall : Q4 12 0 1 = 0 → q 12 0 1 = 0 ∧ r_C p4 (cs ++ [V1] ++ [V2]) ∧ -20 < V1 ∧ -20 < V2 ∧ t_s q + 3 ≤ t_s Q4 ∧ cs.length ≤ t_s q := fun z => by
                obtain ⟨a0, a1, a2, a3⟩ := hC4 z
                obtain ⟨b1, b2⟩ := h31 a0
                obtain ⟨y0, y1, y2, y3⟩ := hC1 b1
                exact ⟨y0, a1, y2, a2, by omega, (hCs y0).2⟩
              refine ca_aload_nr h dX12_compileFactor_155 rfl ?_
              refine ca_iload_n h dX12_compileFactor_156 rfl ?_
              refine ca_vXv h hG ml_X12_379 (c_X12_emit hs (q := Q4) (by rw [up_s]; exact hX4) (cs := cs ++ [V1] ++ [V2]) (fun z => by obtain ⟨a0, a1, a2, a3, a4, a5⟩ := hall z; rw [up_s]; exact ⟨a1, by rw [List.length_append, List.length_append]; have : [V1].length = 1 := rfl; have : [V2].length = 1 := rfl; omega⟩)) (ci := 12) rfl rfl rfl (hs.1 _ _ _ ⟨rfl, rfl⟩) rfl rfl rfl rfl ⟨Nat.le_refl _, Nat.le_refl _⟩ rfl dX12_compileFactor_157 ?_
              intro μ9 hμ9
              obtain ⟨p5, rfl, hX5, hc5, h205, hC5⟩ := hμ9
              rw [up_up]
              rw [up_s] at hc5 h205
              refine ca_vreturn h hR dX12_compileFactor_160 ?_
              have er : e_fac n 4 q = (e_hold n (t_is Q1 19) (t_is Q1 20) V1 V2 (k_mc n), Q4) := by rw [e_fac_c n q 4 ht1 ht2, e_cmp_e, ← hQ1, ← hQ3, ← hV1, ← hV2, ← hQ4]
              rw [er]
              refine ⟨rfl, rfl, _, [V1, V2, -22], rfl, hX5, r_tc_tr (r_tc_tr (r_tc_tr (r_tc_tr hc1 (r_tc_tf hf2)) (r_tc_tf hf3)) hc4) hc5, by rw [h205, h204, hf3.2 20 (by omega), hf2.2 20 (by omega), h201, hO], ?_, fun z => ?_⟩
              · show t_e Q4 = t_e q
                have := hm1.1; have := hm3.1; have := hm4.1; omega
              · obtain ⟨a0, a1, a2, a3, a4, a5⟩ := hall z
                have hcs : cs ++ [V1, V2, -22] = cs ++ [V1] ++ [V2] ++ [-22] := by simp
                exact ⟨a0, by rw [hcs]; exact hC5 z, cg_cmp hmc a2 a3 hop, by show 3 + t_s q ≤ t_s Q4; omega⟩
        ·
          refine ca_bipush h dX12_compileFactor_114 bk_m21 ?_
          refine ca_goto (tgt := 121) h dX12_compileFactor_116 (by decide) ?_
          refine ca_istore_n h dX12_compileFactor_121 rfl ?_
          refine ca_aload_nr h dX12_compileFactor_122 rfl ?_
          refine ca_iload_n h dX12_compileFactor_123 rfl ?_
          refine ca_bipush h dX12_compileFactor_124 bk_m22 ?_
          refine ca_icmp_ne (tgt := 138) h dX12_compileFactor_126 (by decide) (fun c_126 => ?_) (fun c_126 => ?_)
          ·
            refine ca_iconst h dX12_compileFactor_138 ik_1 ?_
            refine ca_goto (tgt := 143) h dX12_compileFactor_139 (by decide) ?_
            have n19 : ¬ t_is Q1 19 = true := fun z => bI_n0.mpr z c_97
            have e143 : r_chk Q1 1 1 = e_q2 Q1 := by unfold e_q2; rw [if_neg n19, if_pos (bI_n0.mp c_111)]; rfl
            have hop : (-21 : Int32) = if t_is Q1 19 = true then -20 else if t_is Q1 20 = true then -21 else -22 := by rw [if_neg n19, if_pos (bI_n0.mp c_111)]
            have hq2 : e_q2 Q1 = Q1 := by unfold e_q2; rw [if_neg n19, if_pos (bI_n0.mp c_111)]
            have hlt1 : t_s Q1 < t_e Q1 := (t_is_kind hX1 (bI_n0.mp c_111) (by decide)).2
            refine ca_iconst h dX12_compileFactor_143 ik_1 ?_
            refine ca_vXv h hG ml_X12_328 (c_X12_check hs (q := Q1) (by rw [up_s]; exact hX1)) (ci := 12) rfl rfl rfl (hs.1 _ _ _ ⟨rfl, rfl⟩) rfl rfl rfl rfl ⟨Nat.le_refl _, Nat.le_refl _⟩ rfl dX12_compileFactor_144 ?_
            intro μ9 hμ9
            obtain ⟨p2, rfl, hX2, hf2⟩ := hμ9
            rw [e143] at hX2
            rw [up_up]
            rw [up_s] at hf2
            refine ca_aload_nr h dX12_compileFactor_147 rfl ?_
            refine ca_vXv h hG ml_X12_332 (c_X12_advance hs (q := e_q2 Q1) (by rw [up_s]; exact hX2)) (ci := 12) rfl rfl rfl (hs.1 _ _ _ ⟨rfl, rfl⟩) rfl rfl rfl rfl ⟨Nat.le_refl _, Nat.le_refl _⟩ rfl dX12_compileFactor_148 ?_
            intro μ9 hμ9
            obtain ⟨p3, rfl, hX3, hf3⟩ := hμ9
            rw [up_up]
            rw [up_s] at hf3
            have hq3 : t_adv (e_q2 Q1) = e_q3 q := by rw [hQ1]; rfl
            obtain ⟨Q3, hQ3⟩ : ∃ z, z = e_q3 q := ⟨_, rfl⟩
            have hm3 : r_mo Q1 Q3 := by rw [hQ3, ← hq3]; exact mo_tr (mo_q2e Q1) (mo_adv _)
            have hm3 := hm3 hm1.2.2
            have hQ13 : Q3 = t_adv (e_q2 Q1) := by rw [hQ3, hq3]
            rw [← hQ13] at hX3
            have h31 : Q3 12 0 1 = 0 → Q1 12 0 1 = 0 ∧ t_s Q1 + 1 ≤ t_s Q3 := fun z => by
              rw [hQ13, t_adv_1, hq2] at z
              exact ⟨z, by rw [hQ13, hq2]; exact t_adv_gt hX1 z hlt1⟩
            refine ca_aload_nr h dX12_compileFactor_151 rfl ?_
            refine ca_vXv h hG ml_X12_393 (c_X12_compileValue hs (q := Q3) (by rw [up_s]; exact hX3) (by omega) (cs := cs ++ [V1]) (fun z => by obtain ⟨y0, y1, y2, y3⟩ := hC1 (h31 z).1; obtain ⟨w1, w2⟩ := hCs y0; rw [up_s]; exact ⟨r_C_tf (r_C_tf y1 hf2) hf3, by rw [List.length_append]; have : [V1].length = 1 := rfl; have := (h31 z).2; omega⟩)) (ci := 12) rfl rfl rfl (hs.1 _ _ _ ⟨rfl, rfl⟩) rfl rfl rfl rfl ⟨Nat.le_refl _, Nat.le_refl _⟩ rfl dX12_compileFactor_152 ?_
            intro μ9 hμ9
            obtain ⟨p4, rfl, hX4, hc4, h204, hC4⟩ := hμ9
            rw [up_up]
            rw [up_s] at hc4 h204
            obtain ⟨V2, hV2⟩ : ∃ z, z = (e_sv Q3).1 := ⟨_, rfl⟩
            have hm4 := mo_sv Q3 hX3.2.1
            obtain ⟨Q4, hQ4⟩ : ∃ z, z = t_adv (e_sv Q3).2 := ⟨_, rfl⟩
            rw [← hQ4] at hX4 hC4 hm4
            rw [← hV2] at hC4
            have hle4 : t_s Q4 ≤ t_e Q4 := by have := hX4.2.1.2.2; have := hX4.2.1.1.2.2.2; omega
            have hall : Q4 12 0 1 = 0 → q 12 0 1 = 0 ∧ r_C p4 (cs ++ [V1] ++ [V2]) ∧ -20 < V1 ∧ -20 < V2 ∧ t_s q + 3 ≤ t_s Q4 ∧ cs.length ≤ t_s q := fun z => by
              obtain ⟨a0, a1, a2, a3⟩ := hC4 z
              obtain ⟨b1, b2⟩ := h31 a0
              obtain ⟨y0, y1, y2, y3⟩ := hC1 b1
              exact ⟨y0, a1, y2, a2, by omega, (hCs y0).2⟩
            refine ca_aload_nr h dX12_compileFactor_155 rfl ?_
            refine ca_iload_n h dX12_compileFactor_156 rfl ?_
            refine ca_vXv h hG ml_X12_379 (c_X12_emit hs (q := Q4) (by rw [up_s]; exact hX4) (cs := cs ++ [V1] ++ [V2]) (fun z => by obtain ⟨a0, a1, a2, a3, a4, a5⟩ := hall z; rw [up_s]; exact ⟨a1, by rw [List.length_append, List.length_append]; have : [V1].length = 1 := rfl; have : [V2].length = 1 := rfl; omega⟩)) (ci := 12) rfl rfl rfl (hs.1 _ _ _ ⟨rfl, rfl⟩) rfl rfl rfl rfl ⟨Nat.le_refl _, Nat.le_refl _⟩ rfl dX12_compileFactor_157 ?_
            intro μ9 hμ9
            obtain ⟨p5, rfl, hX5, hc5, h205, hC5⟩ := hμ9
            rw [up_up]
            rw [up_s] at hc5 h205
            refine ca_vreturn h hR dX12_compileFactor_160 ?_
            have er : e_fac n 4 q = (e_hold n (t_is Q1 19) (t_is Q1 20) V1 V2 (k_mc n), Q4) := by rw [e_fac_c n q 4 ht1 ht2, e_cmp_e, ← hQ1, ← hQ3, ← hV1, ← hV2, ← hQ4]
            rw [er]
            refine ⟨rfl, rfl, _, [V1, V2, -21], rfl, hX5, r_tc_tr (r_tc_tr (r_tc_tr (r_tc_tr hc1 (r_tc_tf hf2)) (r_tc_tf hf3)) hc4) hc5, by rw [h205, h204, hf3.2 20 (by omega), hf2.2 20 (by omega), h201, hO], ?_, fun z => ?_⟩
            · show t_e Q4 = t_e q
              have := hm1.1; have := hm3.1; have := hm4.1; omega
            · obtain ⟨a0, a1, a2, a3, a4, a5⟩ := hall z
              have hcs : cs ++ [V1, V2, -21] = cs ++ [V1] ++ [V2] ++ [-21] := by simp
              exact ⟨a0, by rw [hcs]; exact hC5 z, cg_cmp hmc a2 a3 hop, by show 3 + t_s q ≤ t_s Q4; omega⟩
          · exact absurd c_126 (by decide)
      ·
        refine ca_bipush h dX12_compileFactor_100 bk_m20 ?_
        refine ca_goto (tgt := 121) h dX12_compileFactor_102 (by decide) ?_
        refine ca_istore_n h dX12_compileFactor_121 rfl ?_
        refine ca_aload_nr h dX12_compileFactor_122 rfl ?_
        refine ca_iload_n h dX12_compileFactor_123 rfl ?_
        refine ca_bipush h dX12_compileFactor_124 bk_m22 ?_
        refine ca_icmp_ne (tgt := 138) h dX12_compileFactor_126 (by decide) (fun c_126 => ?_) (fun c_126 => ?_)
        ·
          refine ca_iconst h dX12_compileFactor_138 ik_1 ?_
          refine ca_goto (tgt := 143) h dX12_compileFactor_139 (by decide) ?_
          have e143 : r_chk Q1 1 1 = e_q2 Q1 := by unfold e_q2; rw [if_pos (bI_n0.mp c_97)]; rfl
          have hop : (-20 : Int32) = if t_is Q1 19 = true then -20 else if t_is Q1 20 = true then -21 else -22 := by rw [if_pos (bI_n0.mp c_97)]
          have hq2 : e_q2 Q1 = Q1 := by unfold e_q2; rw [if_pos (bI_n0.mp c_97)]
          have hlt1 : t_s Q1 < t_e Q1 := (t_is_kind hX1 (bI_n0.mp c_97) (by decide)).2
          refine ca_iconst h dX12_compileFactor_143 ik_1 ?_
          refine ca_vXv h hG ml_X12_328 (c_X12_check hs (q := Q1) (by rw [up_s]; exact hX1)) (ci := 12) rfl rfl rfl (hs.1 _ _ _ ⟨rfl, rfl⟩) rfl rfl rfl rfl ⟨Nat.le_refl _, Nat.le_refl _⟩ rfl dX12_compileFactor_144 ?_
          intro μ9 hμ9
          obtain ⟨p2, rfl, hX2, hf2⟩ := hμ9
          rw [e143] at hX2
          rw [up_up]
          rw [up_s] at hf2
          refine ca_aload_nr h dX12_compileFactor_147 rfl ?_
          refine ca_vXv h hG ml_X12_332 (c_X12_advance hs (q := e_q2 Q1) (by rw [up_s]; exact hX2)) (ci := 12) rfl rfl rfl (hs.1 _ _ _ ⟨rfl, rfl⟩) rfl rfl rfl rfl ⟨Nat.le_refl _, Nat.le_refl _⟩ rfl dX12_compileFactor_148 ?_
          intro μ9 hμ9
          obtain ⟨p3, rfl, hX3, hf3⟩ := hμ9
          rw [up_up]
          rw [up_s] at hf3
          have hq3 : t_adv (e_q2 Q1) = e_q3 q := by rw [hQ1]; rfl
          obtain ⟨Q3, hQ3⟩ : ∃ z, z = e_q3 q := ⟨_, rfl⟩
          have hm3 : r_mo Q1 Q3 := by rw [hQ3, ← hq3]; exact mo_tr (mo_q2e Q1) (mo_adv _)
          have hm3 := hm3 hm1.2.2
          have hQ13 : Q3 = t_adv (e_q2 Q1) := by rw [hQ3, hq3]
          rw [← hQ13] at hX3
          have h31 : Q3 12 0 1 = 0 → Q1 12 0 1 = 0 ∧ t_s Q1 + 1 ≤ t_s Q3 := fun z => by
            rw [hQ13, t_adv_1, hq2] at z
            exact ⟨z, by rw [hQ13, hq2]; exact t_adv_gt hX1 z hlt1⟩
          refine ca_aload_nr h dX12_compileFactor_151 rfl ?_
          refine ca_vXv h hG ml_X12_393 (c_X12_compileValue hs (q := Q3) (by rw [up_s]; exact hX3) (by omega) (cs := cs ++ [V1]) (fun z => by obtain ⟨y0, y1, y2, y3⟩ := hC1 (h31 z).1; obtain ⟨w1, w2⟩ := hCs y0; rw [up_s]; exact ⟨r_C_tf (r_C_tf y1 hf2) hf3, by rw [List.length_append]; have : [V1].length = 1 := rfl; have := (h31 z).2; omega⟩)) (ci := 12) rfl rfl rfl (hs.1 _ _ _ ⟨rfl, rfl⟩) rfl rfl rfl rfl ⟨Nat.le_refl _, Nat.le_refl _⟩ rfl dX12_compileFactor_152 ?_
          intro μ9 hμ9
          obtain ⟨p4, rfl, hX4, hc4, h204, hC4⟩ := hμ9
          rw [up_up]
          rw [up_s] at hc4 h204
          obtain ⟨V2, hV2⟩ : ∃ z, z = (e_sv Q3).1 := ⟨_, rfl⟩
          have hm4 := mo_sv Q3 hX3.2.1
          obtain ⟨Q4, hQ4⟩ : ∃ z, z = t_adv (e_sv Q3).2 := ⟨_, rfl⟩
          rw [← hQ4] at hX4 hC4 hm4
          rw [← hV2] at hC4
          have hle4 : t_s Q4 ≤ t_e Q4 := by have := hX4.2.1.2.2; have := hX4.2.1.1.2.2.2; omega
          have hall : Q4 12 0 1 = 0 → q 12 0 1 = 0 ∧ r_C p4 (cs ++ [V1] ++ [V2]) ∧ -20 < V1 ∧ -20 < V2 ∧ t_s q + 3 ≤ t_s Q4 ∧ cs.length ≤ t_s q := fun z => by
            obtain ⟨a0, a1, a2, a3⟩ := hC4 z
            obtain ⟨b1, b2⟩ := h31 a0
            obtain ⟨y0, y1, y2, y3⟩ := hC1 b1
            exact ⟨y0, a1, y2, a2, by omega, (hCs y0).2⟩
          refine ca_aload_nr h dX12_compileFactor_155 rfl ?_
          refine ca_iload_n h dX12_compileFactor_156 rfl ?_
          refine ca_vXv h hG ml_X12_379 (c_X12_emit hs (q := Q4) (by rw [up_s]; exact hX4) (cs := cs ++ [V1] ++ [V2]) (fun z => by obtain ⟨a0, a1, a2, a3, a4, a5⟩ := hall z; rw [up_s]; exact ⟨a1, by rw [List.length_append, List.length_append]; have : [V1].length = 1 := rfl; have : [V2].length = 1 := rfl; omega⟩)) (ci := 12) rfl rfl rfl (hs.1 _ _ _ ⟨rfl, rfl⟩) rfl rfl rfl rfl ⟨Nat.le_refl _, Nat.le_refl _⟩ rfl dX12_compileFactor_157 ?_
          intro μ9 hμ9
          obtain ⟨p5, rfl, hX5, hc5, h205, hC5⟩ := hμ9
          rw [up_up]
          rw [up_s] at hc5 h205
          refine ca_vreturn h hR dX12_compileFactor_160 ?_
          have er : e_fac n 4 q = (e_hold n (t_is Q1 19) (t_is Q1 20) V1 V2 (k_mc n), Q4) := by rw [e_fac_c n q 4 ht1 ht2, e_cmp_e, ← hQ1, ← hQ3, ← hV1, ← hV2, ← hQ4]
          rw [er]
          refine ⟨rfl, rfl, _, [V1, V2, -20], rfl, hX5, r_tc_tr (r_tc_tr (r_tc_tr (r_tc_tr hc1 (r_tc_tf hf2)) (r_tc_tf hf3)) hc4) hc5, by rw [h205, h204, hf3.2 20 (by omega), hf2.2 20 (by omega), h201, hO], ?_, fun z => ?_⟩
          · show t_e Q4 = t_e q
            have := hm1.1; have := hm3.1; have := hm4.1; omega
          · obtain ⟨a0, a1, a2, a3, a4, a5⟩ := hall z
            have hcs : cs ++ [V1, V2, -20] = cs ++ [V1] ++ [V2] ++ [-20] := by simp
            exact ⟨a0, by rw [hcs]; exact hC5 z, cg_cmp hmc a2 a3 hop, by show 3 + t_s q ≤ t_s Q4; omega⟩
        · exact absurd c_126 (by decide)
    ·
      have ht : t_is q 11 = true := bI_n0.mp c_50
      have ht1 : ¬ t_is q 10 = true := fun z => bI_n0.mpr z c_7
      refine ca_aload_nr h dX12_compileFactor_53 rfl ?_
      refine ca_vXv h hG ml_X12_384 (c_X12_enter hs hX (o := 2) hO (by decide)) (ci := 12) rfl rfl rfl (hs.1 _ _ _ ⟨rfl, rfl⟩) rfl rfl rfl rfl ⟨Nat.le_refl _, Nat.le_refl _⟩ rfl dX12_compileFactor_54 ?_
      intro μ9 hμ9
      obtain ⟨p, rfl, hX9, hf⟩ := hμ9
      have h20 : p 22 0 20 = nI 3 := by rw [hf.2 20 (by omega), nw_at, if_pos ⟨rfl, rfl, rfl⟩]
      have hx5 := hX.2.1
      have hlt := (t_is_kind hX ht (by decide)).2
      have h0 := t_is_0 ht
      have hgt := t_adv_gt hX h0 hlt
      refine ca_aload_nr h dX12_compileFactor_57 rfl ?_
      refine gi_X12_301 h (hs.1 _ _ _ ⟨rfl, rfl⟩) dX12_compileFactor_58 ?_
      refine ca_top (show _ = (t_adv q) 12 0 1 by rw [up_s]; exact hX9.1.2.2.1) ?_
      refine ca_if_ne (tgt := 68) h dX12_compileFactor_61 (by decide) (fun c_61 => ?_) (fun c_61 => ?_)
      · exact absurd (by rw [t_adv_1]; exact h0) c_61
      ·
        refine ca_aload_nr h dX12_compileFactor_64 rfl ?_
        refine ca_vXv h hG ml_X12_390 (c_X12_compileTest_o3 hs (q := t_adv q) (n := n) (by rw [up_s]; exact hX9) hmc h02 (by rw [t_adv_e]; exact he2) (by rw [up_s]; exact h20) (cs := cs) (fun _ => by obtain ⟨y1, y2⟩ := hCs h0; rw [up_s]; exact ⟨r_C_tf (r_C_20 y1) hf, by omega⟩)) (ci := 12) rfl rfl rfl (hs.1 _ _ _ ⟨rfl, rfl⟩) rfl rfl rfl rfl ⟨Nat.le_refl _, Nat.le_refl _⟩ rfl dX12_compileFactor_65 ?_
        intro μ8 hμ8
        obtain ⟨p2, C, rfl, hX8, hc8, h208, he8, hC8⟩ := hμ8
        rw [up_up]
        rw [up_s] at hc8
        rw [t_adv_e] at he8
        obtain ⟨R, hRq⟩ : ∃ z, z = e_tst (e_fac n 3) (t_adv q) := ⟨_, rfl⟩
        rw [← hRq] at hX8 he8 hC8
        have hle : t_s R.2 ≤ t_e R.2 := by have := hX8.2.1.2.2; have := hX8.2.1.1.2.2.2; omega
        refine ca_aload_nr h dX12_compileFactor_68 rfl ?_
        refine ca_bipush h dX12_compileFactor_69 bk_41 ?_
        refine ca_vXv h hG ml_X12_371 (c_X12_expect hs (q := R.2) (by rw [up_s]; exact hX8) (a := 22) (by decide) (by decide) (by decide)) (ci := 12) rfl rfl rfl (hs.1 _ _ _ ⟨rfl, rfl⟩) rfl rfl rfl rfl ⟨Nat.le_refl _, Nat.le_refl _⟩ rfl dX12_compileFactor_71 ?_
        intro μ7 hμ7
        obtain ⟨p3, rfl, hX7, hf7⟩ := hμ7
        rw [up_up]
        rw [up_s] at hf7
        refine ca_aload_nr h dX12_compileFactor_74 rfl ?_
        refine ca_dup h dX12_compileFactor_75 rfl ?_
        refine gi_X12_304 h (hs.1 _ _ _ ⟨rfl, rfl⟩) dX12_compileFactor_76 ?_
        refine ca_iconst h dX12_compileFactor_79 ik_1 ?_
        refine ca_isub h dX12_compileFactor_80 ?_
        refine pi_X12_304 h (hs.1 _ _ _ ⟨rfl, rfl⟩) dX12_compileFactor_81 ?_
        refine ca_mem (μ'' := up μ 16 (nw p3 22 0 20 2)) (by rw [ch_st_nw, up_s, up_up, hf7.2 20 (by omega), h208]; rfl) ?_
        refine ca_goto (tgt := 160) h dX12_compileFactor_84 (by decide) ?_
        refine ca_vreturn h hR dX12_compileFactor_160 ?_
        have er : e_fac n 4 q = (R.1, t_exp R.2 22) := by rw [e_fac_s, if_neg ht1, if_pos ht, ← hRq]
        rw [er]
        refine ⟨rfl, rfl, _, C, rfl, r_X1_20 hX7, r_tc_tr (r_tc_tr (r_tc_tr (r_tc_tr r_tc_20 (r_tc_tf hf)) hc8) (r_tc_tf hf7)) r_tc_20, by rw [nw_at, if_pos ⟨rfl, rfl, rfl⟩], ?_, fun z => ?_⟩
        · show t_e (t_exp R.2 22) = t_e q
          rw [← he8]
          unfold t_exp
          split
          · exact t_adv_e _
          · unfold t_e; rw [t_fail_at (by decide)]
        · obtain ⟨g0, g1, -⟩ := mo_exp hX8.2.1 (by decide) z
          obtain ⟨z0, z1, z2, z3⟩ := hC8 g0
          exact ⟨h0, r_C_20 (r_C_tf z1 hf7), z2, by show C.length + t_s q ≤ t_s (t_exp R.2 22); omega⟩
  ·
    have ht : t_is q 10 = true := bI_n0.mp c_7
    refine ca_aload_nr h dX12_compileFactor_10 rfl ?_
    refine ca_vXv h hG ml_X12_384 (c_X12_enter hs hX (o := 2) hO (by decide)) (ci := 12) rfl rfl rfl (hs.1 _ _ _ ⟨rfl, rfl⟩) rfl rfl rfl rfl ⟨Nat.le_refl _, Nat.le_refl _⟩ rfl dX12_compileFactor_11 ?_
    intro μ9 hμ9
    obtain ⟨p, rfl, hX9, hf⟩ := hμ9
    have h20 : p 22 0 20 = nI 3 := by rw [hf.2 20 (by omega), nw_at, if_pos ⟨rfl, rfl, rfl⟩]
    have hx5 := hX.2.1
    have hlt := (t_is_kind hX ht (by decide)).2
    have h0 := t_is_0 ht
    have hgt := t_adv_gt hX h0 hlt
    refine ca_aload_nr h dX12_compileFactor_14 rfl ?_
    refine gi_X12_301 h (hs.1 _ _ _ ⟨rfl, rfl⟩) dX12_compileFactor_15 ?_
    refine ca_top (show _ = (t_adv q) 12 0 1 by rw [up_s]; exact hX9.1.2.2.1) ?_
    refine ca_if_ne (tgt := 25) h dX12_compileFactor_18 (by decide) (fun c_18 => ?_) (fun c_18 => ?_)
    · exact absurd (by rw [t_adv_1]; exact h0) c_18
    ·
      refine ca_aload_nr h dX12_compileFactor_21 rfl ?_
      refine ca_vXv h hG ml_X12_387 (c_X12_compileFactor_o3 hs (q := t_adv q) (n := n) (by rw [up_s]; exact hX9) hmc h02 (by rw [t_adv_e]; exact he2) (by rw [up_s]; exact h20) (cs := cs) (fun _ => by obtain ⟨y1, y2⟩ := hCs h0; rw [up_s]; exact ⟨r_C_tf (r_C_20 y1) hf, by omega⟩)) (ci := 12) rfl rfl rfl (hs.1 _ _ _ ⟨rfl, rfl⟩) rfl rfl rfl rfl ⟨Nat.le_refl _, Nat.le_refl _⟩ rfl dX12_compileFactor_22 ?_
      intro μ8 hμ8
      obtain ⟨p2, C, rfl, hX8, hc8, h208, he8, hC8⟩ := hμ8
      rw [up_up]
      rw [up_s] at hc8
      rw [t_adv_e] at he8
      obtain ⟨R, hRq⟩ : ∃ z, z = e_fac n 3 (t_adv q) := ⟨_, rfl⟩
      rw [← hRq] at hX8 he8 hC8
      have hle : t_s R.2 ≤ t_e R.2 := by have := hX8.2.1.2.2; have := hX8.2.1.1.2.2.2; omega
      refine ca_aload_nr h dX12_compileFactor_25 rfl ?_
      refine ca_bipush h dX12_compileFactor_26 bk_m23 ?_
      refine ca_vXv h hG ml_X12_379 (c_X12_emit hs (q := R.2) (by rw [up_s]; exact hX8) (cs := cs ++ C) (fun z => by obtain ⟨z0, z1, z2, z3⟩ := hC8 z; obtain ⟨y1, y2⟩ := hCs h0; rw [up_s]; exact ⟨z1, by rw [List.length_append]; omega⟩)) (ci := 12) rfl rfl rfl (hs.1 _ _ _ ⟨rfl, rfl⟩) rfl rfl rfl rfl ⟨Nat.le_refl _, Nat.le_refl _⟩ rfl dX12_compileFactor_28 ?_
      intro μ7 hμ7
      obtain ⟨p3, rfl, hX7, hc7, h207, hC7⟩ := hμ7
      rw [up_up]
      rw [up_s] at hc7 h207
      refine ca_aload_nr h dX12_compileFactor_31 rfl ?_
      refine ca_dup h dX12_compileFactor_32 rfl ?_
      refine gi_X12_304 h (hs.1 _ _ _ ⟨rfl, rfl⟩) dX12_compileFactor_33 ?_
      refine ca_iconst h dX12_compileFactor_36 ik_1 ?_
      refine ca_isub h dX12_compileFactor_37 ?_
      refine pi_X12_304 h (hs.1 _ _ _ ⟨rfl, rfl⟩) dX12_compileFactor_38 ?_
      refine ca_mem (μ'' := up μ 16 (nw p3 22 0 20 2)) (by rw [ch_st_nw, up_s, up_up, h207, h208]; rfl) ?_
      refine ca_goto (tgt := 160) h dX12_compileFactor_41 (by decide) ?_
      refine ca_vreturn h hR dX12_compileFactor_160 ?_
      have er : e_fac n 4 q = (e_all n &&& (R.1 ^^^ -1), R.2) := by rw [e_fac_s, if_pos ht, ← hRq]
      rw [er]
      refine ⟨rfl, rfl, _, C ++ [-23], rfl, r_X1_20 hX7, r_tc_tr (r_tc_tr (r_tc_tr (r_tc_tr r_tc_20 (r_tc_tf hf)) hc8) hc7) r_tc_20, by rw [nw_at, if_pos ⟨rfl, rfl, rfl⟩], he8, fun z => ?_⟩
      obtain ⟨z0, z1, z2, z3⟩ := hC8 z
      refine ⟨h0, r_C_20 (by rw [← List.append_assoc]; exact hC7 z), cg_not hmc h02 z2, ?_⟩
      rw [List.length_append]
      have : [(-23 : Int32)].length = 1 := rfl
      show C.length + [(-23 : Int32)].length + t_s q ≤ t_s R.2
      omega
set_option maxHeartbeats 400000 in
theorem c_X12_compileConjunction_o2 {l : Launch} {E : ch_E} {S : ch_S} {μ : ch_M} (hs : ch_Std E S) {q : ch_N} (hX : r_X1 q (μ 16)) {n : ch_N} (hmc : k_mc n ≤ 12) (h02 : ¬ n 0 0 2 < 0) (he2 : t_e q ≤ 200) (hO : μ 16 22 0 20 = 2) {cs : List Int32} (hCs : q 12 0 1 = 0 → r_C (μ 16) cs ∧ cs.length ≤ t_s q) : ch_C E l yX12_compileConjunction cX12_compileConjunction 1 none 20 0 0 S μ [.ref (S.1 16 22 0)] (r_CJ (e_fac n 4) n q cs 2 S μ) := by
  refine ch_enter rfl rfl ?_
  intro X hl0 h hG hR hnm
  have h : ch_H X E RX12 cX12_compileConjunction 1 := h
  show ch_W X E 1 S μ 0 0 0 [(0, .ref (S.1 16 22 0))] []
  refine ca_aload_nr h dX12_compileConjunction_0 rfl ?_
  refine ca_vXv h hG ml_X12_387 (c_X12_compileFactor_o2 hs (q := q) (n := n) hX hmc h02 he2 hO (cs := cs) hCs) (ci := 12) rfl rfl rfl (hs.1 _ _ _ ⟨rfl, rfl⟩) rfl rfl rfl rfl ⟨Nat.le_refl _, Nat.le_refl _⟩ rfl dX12_compileConjunction_1 ?_
  intro μ8 hμ8
  obtain ⟨p1, C1, rfl, hX1, hc1, h201, he1, hC1⟩ := hμ8
  obtain ⟨R1, hR1⟩ : ∃ z, z = e_fac n 4 q := ⟨_, rfl⟩
  rw [← hR1] at hX1 he1 hC1
  have hmo1 := mo_fac n 4 q hX.2.1
  rw [← hR1] at hmo1
  have loop_4 : ∀ (jj k : Nat), k + jj = 200 → ∀ (qc : ch_N) (x : Int32) (C : List Int32) (p : ch_N) (hXc : r_X1 qc p) (hpc : r_tc (μ 16) p) (hec : t_e qc = t_e q) (hsc : t_s q ≤ t_s qc) (hrem : t_e q - t_s qc ≤ jj) (h20 : p 22 0 20 = 2) (heq : ∀ a j0, t_e q - t_s ((e_fac n 4) q).2 ≤ j0 → ∃ j1, t_e q - t_s qc ≤ j1 ∧ e_tL (e_fac n 4) j0 (a, ((e_fac n 4) q).1, ((e_fac n 4) q).2) = e_tL (e_fac n 4) j1 (a, x, qc)) (hCc : qc 12 0 1 = 0 → q 12 0 1 = 0 ∧ r_C p (cs ++ C) ∧ r_cg n C x ∧ C.length + t_s q ≤ t_s qc) (mm : ch_M) (em : mm = up μ 16 p), ch_W X E 1 S mm 0 0 4 [(0, .ref (S.1 16 22 0))] [] := by
    intro jj
    induction jj with
    | zero =>
      intro k hn qc x C p hXc hpc hec hsc hrem h20 heq hCc mm em
      have hn : k = 200 := by omega
      subst em
      refine ca_aload_nr h dX12_compileConjunction_4 rfl ?_
      refine ca_ldcws h (i := 396) (List.mem_of_getElem? (i := 39) rfl) dX12_compileConjunction_5 ?_
      refine ca_vXi h hG ml_X12_398 (c_X12_accept hs (q := qc) (by rw [up_s]; exact hXc) (a := 24) (by decide) (by decide) (by decide)) (ci := 12) rfl rfl rfl (hs.1 _ _ _ ⟨rfl, rfl⟩) rfl rfl rfl rfl ⟨Nat.le_refl _, Nat.le_refl _⟩ rfl dX12_compileConjunction_8 ?_
      intro μ9 hμ9
      obtain ⟨p2, rfl, hX2, hf2⟩ := hμ9
      rw [up_up]
      rw [up_s] at hf2
      refine ca_if_eq (tgt := 27) h dX12_compileConjunction_11 (by decide) (fun c_11 => ?_) (fun c_11 => ?_)
      ·
        have ht : ¬ t_is qc 24 = true := fun z => bI_n0.mpr z c_11
        rw [if_neg ht] at hX2
        refine ca_vreturn h hR dX12_compileConjunction_27 ?_
        exact ⟨rfl, rfl, p2, C, x, qc, rfl, hX2, r_tc_tr hpc (r_tc_tf hf2), by rw [hf2.2 20 (by omega)]; exact h20, hec, hsc, ht, heq, fun z => by
          obtain ⟨z0, z1, z2, z3⟩ := hCc z
          exact ⟨z0, r_C_tf z1 hf2, z2, z3⟩⟩
      · exact absurd (t_is_kind hXc (bI_n0.mp c_11) (by decide)).2 (by omega)
    | succ jj ih_4 =>
      intro k hn qc x C p hXc hpc hec hsc hrem h20 heq hCc mm em
      have hn1 : k < 200 := by omega
      subst em
      refine ca_aload_nr h dX12_compileConjunction_4 rfl ?_
      refine ca_ldcws h (i := 396) (List.mem_of_getElem? (i := 39) rfl) dX12_compileConjunction_5 ?_
      refine ca_vXi h hG ml_X12_398 (c_X12_accept hs (q := qc) (by rw [up_s]; exact hXc) (a := 24) (by decide) (by decide) (by decide)) (ci := 12) rfl rfl rfl (hs.1 _ _ _ ⟨rfl, rfl⟩) rfl rfl rfl rfl ⟨Nat.le_refl _, Nat.le_refl _⟩ rfl dX12_compileConjunction_8 ?_
      intro μ9 hμ9
      obtain ⟨p2, rfl, hX2, hf2⟩ := hμ9
      rw [up_up]
      rw [up_s] at hf2
      refine ca_if_eq (tgt := 27) h dX12_compileConjunction_11 (by decide) (fun c_11 => ?_) (fun c_11 => ?_)
      ·
        have ht : ¬ t_is qc 24 = true := fun z => bI_n0.mpr z c_11
        rw [if_neg ht] at hX2
        refine ca_vreturn h hR dX12_compileConjunction_27 ?_
        exact ⟨rfl, rfl, p2, C, x, qc, rfl, hX2, r_tc_tr hpc (r_tc_tf hf2), by rw [hf2.2 20 (by omega)]; exact h20, hec, hsc, ht, heq, fun z => by
          obtain ⟨z0, z1, z2, z3⟩ := hCc z
          exact ⟨z0, r_C_tf z1 hf2, z2, z3⟩⟩
      ·
        have ht : t_is qc 24 = true := bI_n0.mp c_11
        rw [if_pos ht] at hX2
        have h0 := t_is_0 ht
        have hlt := (t_is_kind hXc ht (by decide)).2
        have hgt := t_adv_gt hXc h0 hlt
        refine ca_aload_nr h dX12_compileConjunction_14 rfl ?_
        refine ca_vXv h hG ml_X12_387 (c_X12_compileFactor_o2 hs (q := t_adv qc) (n := n) (by rw [up_s]; exact hX2) hmc h02 (by rw [t_adv_e, hec]; exact he2) (by rw [up_s, hf2.2 20 (by omega)]; exact h20) (cs := cs ++ C) (fun _ => by obtain ⟨z0, z1, z2, z3⟩ := hCc h0; obtain ⟨y1, y2⟩ := hCs z0; rw [up_s]; exact ⟨r_C_tf z1 hf2, by rw [List.length_append]; omega⟩)) (ci := 12) rfl rfl rfl (hs.1 _ _ _ ⟨rfl, rfl⟩) rfl rfl rfl rfl ⟨Nat.le_refl _, Nat.le_refl _⟩ rfl dX12_compileConjunction_15 ?_
        intro μ8 hμ8
        obtain ⟨p3, D, rfl, hX3, hc3, h203, he3, hC3⟩ := hμ8
        rw [up_up]
        rw [up_s] at hc3
        rw [t_adv_e] at he3
        obtain ⟨R, hR⟩ : ∃ z, z = e_fac n 4 (t_adv qc) := ⟨_, rfl⟩
        rw [← hR] at hX3 he3 hC3
        have hmoR := mo_fac n 4 (t_adv qc) hX2.2.1
        rw [← hR] at hmoR
        have hle : t_s R.2 ≤ t_e R.2 := by have := hX3.2.1.2.2; have := hX3.2.1.1.2.2.2; omega
        refine ca_aload_nr h dX12_compileConjunction_18 rfl ?_
        refine ca_bipush h dX12_compileConjunction_19 bk_m24 ?_
        refine ca_vXv h hG ml_X12_379 (c_X12_emit hs (q := R.2) (by rw [up_s]; exact hX3) (cs := cs ++ C ++ D) (fun z => by obtain ⟨a0, a1, a2, a3⟩ := hC3 z; obtain ⟨z0, z1, z2, z3⟩ := hCc h0; obtain ⟨y1, y2⟩ := hCs z0; rw [up_s]; exact ⟨a1, by rw [List.length_append, List.length_append]; omega⟩)) (ci := 12) rfl rfl rfl (hs.1 _ _ _ ⟨rfl, rfl⟩) rfl rfl rfl rfl ⟨Nat.le_refl _, Nat.le_refl _⟩ rfl dX12_compileConjunction_21 ?_
        intro μ7 hμ7
        obtain ⟨p4, rfl, hX4, hc4, h204, hC4⟩ := hμ7
        rw [up_up]
        rw [up_s] at hc4 h204
        refine ca_goto (tgt := 4) h dX12_compileConjunction_24 (by decide) ?_
        refine ca_pick [0] rfl ?_
        exact ih_4 (k + 1) (by omega) R.2 (x &&& R.1) (C ++ D ++ [-24]) p4 hX4 (r_tc_tr (r_tc_tr (r_tc_tr hpc (r_tc_tf hf2)) hc3) hc4) (he3.trans hec) (by have := hmoR.2.1; omega) (by have := hmoR.2.1; omega) (h204.trans h203) (fun a j0 hj => by
          obtain ⟨j1, g1, g2⟩ := heq a j0 hj
          obtain ⟨j2, rfl⟩ : ∃ j2, j1 = j2 + 1 := ⟨j1 - 1, by omega⟩
          refine ⟨j2, by have := hmoR.2.1; omega, ?_⟩
          rw [g2, e_tL_s, if_neg (and_or ht), if_pos ht, ← hR]) (fun z => by
          obtain ⟨a0, a1, a2, a3⟩ := hC3 z
          obtain ⟨z0, z1, z2, z3⟩ := hCc h0
          refine ⟨z0, by rw [← List.append_assoc, ← List.append_assoc]; exact hC4 z, cg_and hmc z2 a2, ?_⟩
          rw [List.length_append, List.length_append]
          show C.length + D.length + 1 + t_s q ≤ t_s R.2
          omega) _ rfl
  refine ca_pick [0] rfl ?_
  exact loop_4 200 0 (Nat.zero_add _) R1.2 R1.1 C1 p1 hX1 hc1 he1 hmo1.2.1 (by omega) h201 (fun a j0 hj => ⟨j0, by rw [hR1]; exact hj, by rw [hR1]⟩) hC1 _ rfl
set_option maxHeartbeats 400000 in
theorem c_X12_compileTest_o2 {l : Launch} {E : ch_E} {S : ch_S} {μ : ch_M} (hs : ch_Std E S) {q : ch_N} (hX : r_X1 q (μ 16)) {n : ch_N} (hmc : k_mc n ≤ 12) (h02 : ¬ n 0 0 2 < 0) (he2 : t_e q ≤ 200) (hO : μ 16 22 0 20 = 2) {cs : List Int32} (hCs : q 12 0 1 = 0 → r_C (μ 16) cs ∧ cs.length ≤ t_s q) : ch_C E l yX12_compileTest cX12_compileTest 1 none 21 0 0 S μ [.ref (S.1 16 22 0)] (r_CP n q cs (e_tst (e_fac n 4) q) 2 S μ) := by
  refine ch_enter rfl rfl ?_
  intro X hl0 h hG hR hnm
  have h : ch_H X E RX12 cX12_compileTest 1 := h
  show ch_W X E 1 S μ 0 0 0 [(0, .ref (S.1 16 22 0))] []
  refine ca_aload_nr h dX12_compileTest_0 rfl ?_
  refine ca_vXv h hG ml_X12_401 (c_X12_compileConjunction_o2 hs (q := q) (n := n) hX hmc h02 he2 hO (cs := cs) hCs) (ci := 12) rfl rfl rfl (hs.1 _ _ _ ⟨rfl, rfl⟩) rfl rfl rfl rfl ⟨Nat.le_refl _, Nat.le_refl _⟩ rfl dX12_compileTest_1 ?_
  intro μ8 hμ8
  obtain ⟨p1, C1, x1, q1, rfl, hX1, hc1, h201, he1, hs1, hn1x, hq1, hC1⟩ := hμ8
  have hin1 : ∃ jc, t_e q - t_s q1 ≤ jc ∧ e_tR (e_fac n 4) q = e_tL (e_fac n 4) jc (0, x1, q1) := by
    obtain ⟨j1, g1, g2⟩ := hq1 0 200 (by omega)
    exact ⟨j1, g1, g2⟩
  have loop_4 : ∀ (jj k : Nat), k + jj = 200 → ∀ (a : Int32) (qc : ch_N) (x : Int32) (C : List Int32) (p : ch_N) (hXc : r_X1 qc p) (hpc : r_tc (μ 16) p) (hec : t_e qc = t_e q) (hsc : t_s q ≤ t_s qc) (hrem : t_e q - t_s qc ≤ jj) (h20 : p 22 0 20 = 2) (hna : ¬ t_is qc 24 = true) (heq : ∃ jc, t_e q - t_s qc ≤ jc ∧ e_tR (e_fac n 4) q = e_tL (e_fac n 4) jc (a, x, qc)) (hCc : qc 12 0 1 = 0 → q 12 0 1 = 0 ∧ r_C p (cs ++ C) ∧ r_cg n C (a ||| x) ∧ C.length + t_s q ≤ t_s qc) (mm : ch_M) (em : mm = up μ 16 p), ch_W X E 1 S mm 0 0 4 [(0, .ref (S.1 16 22 0))] [] := by
    intro jj
    induction jj with
    | zero =>
      intro k hn a qc x C p hXc hpc hec hsc hrem h20 hna heq hCc mm em
      have hn : k = 200 := by omega
      subst em
      refine ca_aload_nr h dX12_compileTest_4 rfl ?_
      refine ca_ldcws h (i := 404) (List.mem_of_getElem? (i := 40) rfl) dX12_compileTest_5 ?_
      refine ca_vXi h hG ml_X12_398 (c_X12_accept hs (q := qc) (by rw [up_s]; exact hXc) (a := 23) (by decide) (by decide) (by decide)) (ci := 12) rfl rfl rfl (hs.1 _ _ _ ⟨rfl, rfl⟩) rfl rfl rfl rfl ⟨Nat.le_refl _, Nat.le_refl _⟩ rfl dX12_compileTest_8 ?_
      intro μ9 hμ9
      obtain ⟨p2, rfl, hX2, hf2⟩ := hμ9
      rw [up_up]
      rw [up_s] at hf2
      refine ca_if_eq (tgt := 27) h dX12_compileTest_11 (by decide) (fun c_11 => ?_) (fun c_11 => ?_)
      ·
        have ht : ¬ t_is qc 23 = true := fun z => bI_n0.mpr z c_11
        rw [if_neg ht] at hX2
        refine ca_vreturn h hR dX12_compileTest_27 ?_
        obtain ⟨jc, g1, g2⟩ := heq
        have hst : e_tL (e_fac n 4) jc (a, x, qc) = (a, x, qc) := by
          cases jc with
          | zero => rfl
          | succ j2 => rw [e_tL_s, if_neg ht, if_neg hna]
        have er : e_tst (e_fac n 4) q = (a ||| x, qc) := by unfold e_tst; rw [g2, hst]
        rw [er]
        exact ⟨rfl, rfl, p2, C, rfl, hX2, r_tc_tr hpc (r_tc_tf hf2), by rw [hf2.2 20 (by omega)]; exact h20, hec, fun z => by
          obtain ⟨z0, z1, z2, z3⟩ := hCc z
          exact ⟨z0, r_C_tf z1 hf2, z2, z3⟩⟩
      · exact absurd (t_is_kind hXc (bI_n0.mp c_11) (by decide)).2 (by omega)
    | succ jj ih_4 =>
      intro k hn a qc x C p hXc hpc hec hsc hrem h20 hna heq hCc mm em
      have hn1 : k < 200 := by omega
      subst em
      refine ca_aload_nr h dX12_compileTest_4 rfl ?_
      refine ca_ldcws h (i := 404) (List.mem_of_getElem? (i := 40) rfl) dX12_compileTest_5 ?_
      refine ca_vXi h hG ml_X12_398 (c_X12_accept hs (q := qc) (by rw [up_s]; exact hXc) (a := 23) (by decide) (by decide) (by decide)) (ci := 12) rfl rfl rfl (hs.1 _ _ _ ⟨rfl, rfl⟩) rfl rfl rfl rfl ⟨Nat.le_refl _, Nat.le_refl _⟩ rfl dX12_compileTest_8 ?_
      intro μ9 hμ9
      obtain ⟨p2, rfl, hX2, hf2⟩ := hμ9
      rw [up_up]
      rw [up_s] at hf2
      refine ca_if_eq (tgt := 27) h dX12_compileTest_11 (by decide) (fun c_11 => ?_) (fun c_11 => ?_)
      ·
        have ht : ¬ t_is qc 23 = true := fun z => bI_n0.mpr z c_11
        rw [if_neg ht] at hX2
        refine ca_vreturn h hR dX12_compileTest_27 ?_
        obtain ⟨jc, g1, g2⟩ := heq
        have hst : e_tL (e_fac n 4) jc (a, x, qc) = (a, x, qc) := by
          cases jc with
          | zero => rfl
          | succ j2 => rw [e_tL_s, if_neg ht, if_neg hna]
        have er : e_tst (e_fac n 4) q = (a ||| x, qc) := by unfold e_tst; rw [g2, hst]
        rw [er]
        exact ⟨rfl, rfl, p2, C, rfl, hX2, r_tc_tr hpc (r_tc_tf hf2), by rw [hf2.2 20 (by omega)]; exact h20, hec, fun z => by
          obtain ⟨z0, z1, z2, z3⟩ := hCc z
          exact ⟨z0, r_C_tf z1 hf2, z2, z3⟩⟩
      ·
        have ht : t_is qc 23 = true := bI_n0.mp c_11
        rw [if_pos ht] at hX2
        have h0 := t_is_0 ht
        have hlt := (t_is_kind hXc ht (by decide)).2
        have hgt := t_adv_gt hXc h0 hlt
        refine ca_aload_nr h dX12_compileTest_14 rfl ?_
        refine ca_vXv h hG ml_X12_401 (c_X12_compileConjunction_o2 hs (q := t_adv qc) (n := n) (by rw [up_s]; exact hX2) hmc h02 (by rw [t_adv_e, hec]; exact he2) (by rw [up_s, hf2.2 20 (by omega)]; exact h20) (cs := cs ++ C) (fun _ => by obtain ⟨z0, z1, z2, z3⟩ := hCc h0; obtain ⟨y1, y2⟩ := hCs z0; rw [up_s]; exact ⟨r_C_tf z1 hf2, by rw [List.length_append]; omega⟩)) (ci := 12) rfl rfl rfl (hs.1 _ _ _ ⟨rfl, rfl⟩) rfl rfl rfl rfl ⟨Nat.le_refl _, Nat.le_refl _⟩ rfl dX12_compileTest_15 ?_
        intro μ8 hμ8
        obtain ⟨p3, D, x3, q3, rfl, hX3, hc3, h203, he3, hs3, hn3x, hq3, hC3⟩ := hμ8
        rw [up_up]
        rw [up_s] at hc3
        rw [t_adv_e] at he3 hq3
        have hle : t_s q3 ≤ t_e q3 := by have := hX3.2.1.2.2; have := hX3.2.1.1.2.2.2; omega
        refine ca_aload_nr h dX12_compileTest_18 rfl ?_
        refine ca_bipush h dX12_compileTest_19 bk_m25 ?_
        refine ca_vXv h hG ml_X12_379 (c_X12_emit hs (q := q3) (by rw [up_s]; exact hX3) (cs := cs ++ C ++ D) (fun z => by obtain ⟨a0, a1, a2, a3⟩ := hC3 z; obtain ⟨z0, z1, z2, z3⟩ := hCc h0; obtain ⟨y1, y2⟩ := hCs z0; rw [up_s]; exact ⟨a1, by rw [List.length_append, List.length_append]; omega⟩)) (ci := 12) rfl rfl rfl (hs.1 _ _ _ ⟨rfl, rfl⟩) rfl rfl rfl rfl ⟨Nat.le_refl _, Nat.le_refl _⟩ rfl dX12_compileTest_21 ?_
        intro μ7 hμ7
        obtain ⟨p4, rfl, hX4, hc4, h204, hC4⟩ := hμ7
        rw [up_up]
        rw [up_s] at hc4 h204
        refine ca_goto (tgt := 4) h dX12_compileTest_24 (by decide) ?_
        refine ca_pick [0] rfl ?_
        obtain ⟨jc, g1, g2⟩ := heq
        obtain ⟨j2, rfl⟩ : ∃ j2, jc = j2 + 1 := ⟨jc - 1, by omega⟩
        rw [e_tL_s, if_pos ht] at g2
        have hmoR := mo_fac n 4 (t_adv qc) hX2.2.1
        obtain ⟨j3, g3, g4⟩ := hq3 (a ||| x) j2 (by have := hmoR.2.1; rw [hec]; omega)
        exact ih_4 (k + 1) (by omega) (a ||| x) q3 x3 (C ++ D ++ [-25]) p4 hX4 (r_tc_tr (r_tc_tr (r_tc_tr hpc (r_tc_tf hf2)) hc3) hc4) (he3.trans hec) (by omega) (by omega) (h204.trans h203) hn3x ⟨j3, by rw [← hec]; exact g3, g2.trans g4⟩ (fun z => by
          obtain ⟨a0, a1, a2, a3⟩ := hC3 z
          obtain ⟨z0, z1, z2, z3⟩ := hCc h0
          refine ⟨z0, by rw [← List.append_assoc, ← List.append_assoc]; exact hC4 z, cg_or hmc z2 a2, ?_⟩
          rw [List.length_append, List.length_append]
          show C.length + D.length + 1 + t_s q ≤ t_s q3
          omega) _ rfl
  refine ca_pick [0] rfl ?_
  exact loop_4 200 0 (Nat.zero_add _) 0 q1 x1 C1 p1 hX1 hc1 he1 hs1 (by omega) h201 hn1x hin1 (fun z => by obtain ⟨z0, z1, z2, z3⟩ := hC1 z; exact ⟨z0, z1, r_cg_0 z2, z3⟩) _ rfl
