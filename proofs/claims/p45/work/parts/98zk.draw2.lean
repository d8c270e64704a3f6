set_option maxHeartbeats 400000 in
theorem c_drB {X : ch_X} {E : ch_E} {sv : Nat → Nat} {S S0 : ch_S} {μ μ0 : ch_M} (h : ch_H X E RL cL_drawn 7) (hG : ch_G X 3 37 312) (hR : ch_R X E (some (FieldType.object "CellHandoverLaw$Own")) 37 312 (o_DR E S0 μ0)) (hb6 : p_b6 sv) (hD : o_dS E (a_C E) (fun _ _ => 0) sv S0 μ0 S μ) : ch_W X E 7 S μ 37 312 175 [(0, .ref (ch_sb E)), (1, .int 0), (2, .ref (S.1 16 22 0)), (3, .int (a_cl E 0))] [] := by
  have hC5 := a_C5 E
  refine ca_iconst h dL_drawn_175 ik_0 ?_
  refine ca_istore h dL_drawn_176 rfl ?_
  have loop_178 : ∀ (jj a : Nat), a + jj = 8 → ∀ (μi : ch_M) (hD : o_dS E (a_C E) (fun x y => if x < a ∨ (x = a ∧ y < 0) then -1 else 0) sv S0 μ0 S μi), ch_W X E 7 S μi 37 312 178 [(0, .ref (ch_sb E)), (1, .int 0), (2, .ref (S.1 16 22 0)), (3, .int (a_cl E 0)), (4, .int (nI a))] [] := by
    intro jj
    induction jj with
    | zero =>
      intro a hn μi hD
      have hn : a = 8 := by omega
      refine ca_iload h dL_drawn_178 rfl ?_
      refine ca_bipush h dL_drawn_180 bk_8 ?_
      refine ca_icmp_ge (tgt := 218) h dL_drawn_182 (by decide) (fun c_182 => ?_) (fun c_182 => ?_)
      ·
        exact ca_pick [0, 1, 2, 3] rfl (c_drD h hG hR hb6 (fun x y => Or.inl rfl) (o_dS_cg (hy' := fun _ _ => -1) hD (fun x y hx hy => if_pos (by omega))))
      · exact absurd (show nI a < nI 8 from c_182) (by rw [hn]; exact Int32.lt_irrefl)
    | succ jj ih_178 =>
      intro a hn μi hD
      have hn1 : a < 8 := by omega
      refine ca_iload h dL_drawn_178 rfl ?_
      refine ca_bipush h dL_drawn_180 bk_8 ?_
      refine ca_icmp_ge (tgt := 218) h dL_drawn_182 (by decide) (fun c_182 => ?_) (fun c_182 => ?_)
      · exact absurd (nI_lt (b := 8) hn1 (by decide)) c_182
      ·
        refine ca_iconst h dL_drawn_185 ik_0 ?_
        refine ca_istore h dL_drawn_186 rfl ?_
        have loop_188 : ∀ (jj b : Nat), b + jj = 8 → ∀ (μj : ch_M) (hD : o_dS E (a_C E) (fun x y => if x < a ∨ (x = a ∧ y < b) then -1 else 0) sv S0 μ0 S μj), ch_W X E 7 S μj 37 312 188 [(0, .ref (ch_sb E)), (1, .int 0), (2, .ref (S.1 16 22 0)), (3, .int (a_cl E 0)), (4, .int (nI a)), (5, .int (nI b))] [] := by
          intro jj
          induction jj with
          | zero =>
            intro b hn μj hD
            have hn : b = 8 := by omega
            refine ca_iload h dL_drawn_188 rfl ?_
            refine ca_bipush h dL_drawn_190 bk_8 ?_
            refine ca_icmp_ge (tgt := 212) h dL_drawn_192 (by decide) (fun c_192 => ?_) (fun c_192 => ?_)
            ·
              refine ca_iinc h dL_drawn_212 rfl ik_1 rfl ?_
              rw [show nI a + 1 = nI (a + 1) from nI_1 _]
              refine ca_goto (tgt := 178) h dL_drawn_215 (by decide) ?_
              refine ca_pick [1, 2, 3, 4, 0] rfl ?_
              exact ih_178 (a + 1) (by omega) μj (o_dS_cg hD (fun x y hx hy => by (try dsimp only); by_cases g : x < a ∨ (x = a ∧ y < b); (· rw [if_pos g, if_pos (by omega)]); (· rw [if_neg g, if_neg (by omega)])))
            · exact absurd (show nI b < nI 8 from c_192) (by rw [hn]; exact Int32.lt_irrefl)
          | succ jj ih_188 =>
            intro b hn μj hD
            have hn1 : b < 8 := by omega
            refine ca_iload h dL_drawn_188 rfl ?_
            refine ca_bipush h dL_drawn_190 bk_8 ?_
            refine ca_icmp_ge (tgt := 212) h dL_drawn_192 (by decide) (fun c_192 => ?_) (fun c_192 => ?_)
            · exact absurd (nI_lt (b := 8) hn1 (by decide)) c_192
            ·
              refine ca_aload_nr h dL_drawn_195 rfl ?_
              refine gr_L_38 h (hD.2.1.1 _ _ _ (by show _ ∧ _; omega)) (hD.2.1.2.1 _ _ _ _ _ (by show _ ∧ _; omega) rfl) dL_drawn_196 ?_
              show ch_W X E _ _ _ _ _ _ _ (.ref (S.1 16 24 1) :: _)
              refine ca_iload h dL_drawn_199 rfl ?_
              refine oa_aald h (j := a) rfl (by decide) (hD.2.1.1 _ _ _ (by show _ ∧ _; omega)) rfl (by omega) (by decide) (hD.2.1.2.1 _ _ _ _ _ (by show _ ∧ _; omega) (o_rt241 (by omega))) dL_drawn_201 ?_
              show ch_W X E _ _ _ _ _ _ _ (.ref (S.1 16 48 (8 + a)) :: _)
              refine ca_iload h dL_drawn_202 rfl ?_
              refine ca_iconst h dL_drawn_204 ik_m1 ?_
              refine oa_iast h (j := b) rfl (hD.2.1.1 _ _ _ (by show _ ∧ _; omega)) rfl (by omega) (by decide) dL_drawn_205 ?_
              have hD1 := o_dS_hy hD (by omega) (a := a) (b := b) (v := -1) (by omega) (by omega)
              refine ca_iinc h dL_drawn_206 rfl ik_1 rfl ?_
              rw [show nI b + 1 = nI (b + 1) from nI_1 _]
              refine ca_goto (tgt := 188) h dL_drawn_209 (by decide) ?_
              refine ca_pick [1, 2, 3, 4, 5, 0] rfl ?_
              exact ih_188 (b + 1) (by omega) _ (o_dS_cg hD1 (fun x y hx hy => by (try dsimp only); by_cases g : x = a ∧ y = b; (· rw [if_pos g, if_pos (by omega)]); (· rw [if_neg g]; by_cases g2 : x < a ∨ (x = a ∧ y < b); (· rw [if_pos g2, if_pos (by omega)]); (· rw [if_neg g2, if_neg (by omega)]))))
        refine ca_pick [1, 2, 3, 4, 5, 0] rfl ?_
        exact loop_188 8 0 (by omega) μi hD
  refine ca_pick [1, 2, 3, 4, 0] rfl ?_
  exact loop_178 8 0 (by omega) μ (o_dS_cg hD (fun x y _ _ => (if_neg (by omega)).symm))
set_option maxHeartbeats 400000 in
theorem c_drA {X : ch_X} {E : ch_E} {sv : Nat → Nat} {S S0 : ch_S} {μ μ0 : ch_M} (h : ch_H X E RL cL_drawn 7) (hG : ch_G X 3 37 312) (hR : ch_R X E (some (FieldType.object "CellHandoverLaw$Own")) 37 312 (o_DR E S0 μ0)) (hb6 : p_b6 sv) (hD : o_dS E 0 (fun _ _ => 0) sv S0 μ0 S μ) : ch_W X E 7 S μ 32 272 28 [(0, .ref (ch_sb E)), (1, .int 0), (2, .ref (S.1 16 22 0)), (3, .int (a_cl E 0)), (4, .int (nI 0))] [] := by
  have hC5 := a_C5 E
  obtain ⟨Sa, rfl⟩ : ∃ z, z = S := ⟨_, rfl⟩
  have loop_28 : ∀ (jj n : Nat), n + jj = a_C E → ∀ (S : ch_S) (μi : ch_M) (hD : o_dS E n (fun _ _ => 0) sv S0 μ0 S μi), ch_W X E 7 S μi (32 + n) (272 + 8 * n) 28 [(0, .ref (ch_sb E)), (1, .int 0), (2, .ref (S.1 16 22 0)), (3, .int (a_cl E 0)), (4, .int (nI n))] [] := by
    intro jj
    induction jj with
    | zero =>
      intro n hn S μi hD
      have hn : n = a_C E := by omega
      refine ca_iload h dL_drawn_28 rfl ?_
      refine ca_aload_nr h dL_drawn_30 rfl ?_
      refine gi_L_31 h (hD.2.1.1 _ _ _ (by show _ ∧ _; omega)) dL_drawn_31 ?_
      refine ca_top (y := nI (a_C E)) hD.2.2.1.1 ?_
      refine ca_icmp_ge (tgt := 175) h dL_drawn_34 (by decide) (fun c_34 => ?_) (fun c_34 => ?_)
      ·
        rw [hn] at hD
        refine ca_widen (k := 37) (n := 312) (by omega) (by omega) ?_
        exact ca_pick [0, 1, 2, 3] rfl (c_drB h hG hR hb6 hD)
      · exact absurd (show nI n < nI (a_C E) from c_34) (by rw [hn]; exact Int32.lt_irrefl)
    | succ jj ih_28 =>
      intro n hn S μi hD
      have hn1 : n < a_C E := by omega
      refine ca_iload h dL_drawn_28 rfl ?_
      refine ca_aload_nr h dL_drawn_30 rfl ?_
      refine gi_L_31 h (hD.2.1.1 _ _ _ (by show _ ∧ _; omega)) dL_drawn_31 ?_
      refine ca_top (y := nI (a_C E)) hD.2.2.1.1 ?_
      refine ca_icmp_ge (tgt := 175) h dL_drawn_34 (by decide) (fun c_34 => ?_) (fun c_34 => ?_)
      · exact absurd ((nI_ltI (by omega) (by omega)).mpr hn1) c_34
      ·
        refine ca_aload_nr h dL_drawn_37 rfl ?_
        refine ca_iload_n h dL_drawn_38 rfl ?_
        refine ca_iconst h dL_drawn_39 ik_1 ?_
        refine ca_iadd h dL_drawn_40 ?_
        refine ca_top (y := nI 1) (by decide) ?_
        refine ca_iload h dL_drawn_41 rfl ?_
        refine ca_iadd h dL_drawn_43 ?_
        refine ca_top (y := nI (1 + n)) (nI_add ..) ?_
        refine oa_s h hG ms_L_23 (c_L_cell (k := 1 + n) (by omega)) rfl rfl rfl rfl ⟨by omega, by omega⟩ rfl dL_drawn_44 ?_
        refine ca_istore h dL_drawn_47 rfl ?_
        refine ca_aload_nr h dL_drawn_49 rfl ?_
        refine gr_L_35 h (hD.2.1.1 _ _ _ (by show _ ∧ _; omega)) (hD.2.1.2.1 _ _ _ _ _ (by show _ ∧ _; omega) rfl) dL_drawn_50 ?_
        show ch_W X E _ _ _ _ _ _ _ (.ref (S.1 16 24 0) :: _)
        refine ca_iload h dL_drawn_53 rfl ?_
        refine ca_bipush h dL_drawn_55 bk_8 ?_
        refine oa_newI 16 48 n (n := 8) h hG (ch_bs16 hD.2.1) rfl kw_67 rfl (by omega) ⟨by omega, by omega⟩ dL_drawn_57 ?_
        intro S1 μ1 hw
        rw [← (hw.2.2 16 22 0 (by omega)).1, ← (hw.2.2 16 24 0 (by omega)).1]
        have hv1 := hw.1
        have hv24 : S1.2.1 16 24 0 := (hw.2.2 16 24 0 (by omega)).2.1.mpr (hD.2.1.1 _ _ _ (by show _ ∧ _; omega))
        show ch_W X E 7 S1 μ1 _ _ _ _ _
        refine ca_dup h dL_drawn_59 rfl ?_
        refine ca_iconst h dL_drawn_60 ik_0 ?_
        refine ca_iload h dL_drawn_61 rfl ?_
        refine ca_sipush h dL_drawn_63 sk_1000 ?_
        refine oa_s h hG ms_L_27 (c_L_most (by decide) (by decide)) rfl rfl rfl rfl ⟨by omega, by omega⟩ rfl dL_drawn_66 ?_
        refine oa_iast h (j := 0) rfl hv1 rfl (by omega) (by decide) dL_drawn_69 ?_
        refine ca_dup h dL_drawn_70 rfl ?_
        refine ca_iconst h dL_drawn_71 ik_1 ?_
        refine ca_iload h dL_drawn_72 rfl ?_
        refine ca_iconst h dL_drawn_74 ik_4 ?_
        refine ca_ishr h dL_drawn_75 ?_
        refine ca_sipush h dL_drawn_76 sk_1000 ?_
        refine oa_s h hG ms_L_27 (c_L_most (by decide) (by decide)) rfl rfl rfl rfl ⟨by omega, by omega⟩ rfl dL_drawn_79 ?_
        refine oa_iast h (j := 1) rfl hv1 rfl (by omega) (by decide) dL_drawn_82 ?_
        refine ca_dup h dL_drawn_83 rfl ?_
        refine ca_iconst h dL_drawn_84 ik_2 ?_
        refine ca_bipush h dL_drawn_85 bk_40 ?_
        refine ca_iload h dL_drawn_87 rfl ?_
        refine ca_bipush h dL_drawn_89 bk_8 ?_
        refine ca_ishr h dL_drawn_91 ?_
        refine ca_bipush h dL_drawn_92 bk_60 ?_
        refine oa_s h hG ms_L_27 (c_L_most (by decide) (by decide)) rfl rfl rfl rfl ⟨by omega, by omega⟩ rfl dL_drawn_94 ?_
        refine ca_iadd h dL_drawn_97 ?_
        refine ca_top (y := nI (40 + a_md ((a_cl E (1 + n)) >>> (8 &&& 31)) 60)) (show nI 40 + _ = _ from nI_add ..) ?_
        refine oa_iast h (j := 2) rfl hv1 rfl (by omega) (by decide) dL_drawn_98 ?_
        refine ca_dup h dL_drawn_99 rfl ?_
        refine ca_iconst h dL_drawn_100 ik_3 ?_
        refine ca_iconst h dL_drawn_101 ik_1 ?_
        refine ca_iload h dL_drawn_102 rfl ?_
        refine ca_bipush h dL_drawn_104 bk_10 ?_
        refine ca_ishr h dL_drawn_106 ?_
        refine ca_bipush h dL_drawn_107 bk_12 ?_
        refine oa_s h hG ms_L_27 (c_L_most (by decide) (by decide)) rfl rfl rfl rfl ⟨by omega, by omega⟩ rfl dL_drawn_109 ?_
        refine ca_iadd h dL_drawn_112 ?_
        refine ca_top (y := nI (1 + a_md ((a_cl E (1 + n)) >>> (10 &&& 31)) 12)) (show nI 1 + _ = _ from nI_add ..) ?_
        refine oa_iast h (j := 3) rfl hv1 rfl (by omega) (by decide) dL_drawn_113 ?_
        refine ca_dup h dL_drawn_114 rfl ?_
        refine ca_iconst h dL_drawn_115 ik_4 ?_
        refine ca_iconst h dL_drawn_116 ik_1 ?_
        refine ca_iload h dL_drawn_117 rfl ?_
        refine ca_bipush h dL_drawn_119 bk_12 ?_
        refine ca_ishr h dL_drawn_121 ?_
        refine ca_iconst h dL_drawn_122 ik_2 ?_
        refine oa_s h hG ms_L_27 (c_L_most (by decide) (by decide)) rfl rfl rfl rfl ⟨by omega, by omega⟩ rfl dL_drawn_123 ?_
        refine ca_iadd h dL_drawn_126 ?_
        refine ca_top (y := nI (1 + a_md ((a_cl E (1 + n)) >>> (12 &&& 31)) 2)) (show nI 1 + _ = _ from nI_add ..) ?_
        refine oa_iast h (j := 4) rfl hv1 rfl (by omega) (by decide) dL_drawn_127 ?_
        refine ca_dup h dL_drawn_128 rfl ?_
        refine ca_iconst h dL_drawn_129 ik_5 ?_
        refine ca_iload h dL_drawn_130 rfl ?_
        refine ca_bipush h dL_drawn_132 bk_14 ?_
        refine ca_ishr h dL_drawn_134 ?_
        refine ca_iconst h dL_drawn_135 ik_3 ?_
        refine oa_s h hG ms_L_27 (c_L_most (by decide) (by decide)) rfl rfl rfl rfl ⟨by omega, by omega⟩ rfl dL_drawn_136 ?_
        refine oa_iast h (j := 5) rfl hv1 rfl (by omega) (by decide) dL_drawn_139 ?_
        refine ca_dup h dL_drawn_140 rfl ?_
        refine ca_bipush h dL_drawn_141 bk_6 ?_
        refine ca_iload h dL_drawn_143 rfl ?_
        refine ca_bipush h dL_drawn_145 bk_16 ?_
        refine ca_ishr h dL_drawn_147 ?_
        refine ca_bipush h dL_drawn_148 bk_30 ?_
        refine oa_s h hG ms_L_27 (c_L_most (by decide) (by decide)) rfl rfl rfl rfl ⟨by omega, by omega⟩ rfl dL_drawn_150 ?_
        refine oa_iast h (j := 6) rfl hv1 rfl (by omega) (by decide) dL_drawn_153 ?_
        refine ca_dup h dL_drawn_154 rfl ?_
        refine ca_bipush h dL_drawn_155 bk_7 ?_
        refine ca_iload h dL_drawn_157 rfl ?_
        refine ca_bipush h dL_drawn_159 bk_18 ?_
        refine ca_ishr h dL_drawn_161 ?_
        refine ca_bipush h dL_drawn_162 bk_60 ?_
        refine oa_s h hG ms_L_27 (c_L_most (by decide) (by decide)) rfl rfl rfl rfl ⟨by omega, by omega⟩ rfl dL_drawn_164 ?_
        refine oa_iast h (j := 7) rfl hv1 rfl (by omega) (by decide) dL_drawn_167 ?_
        refine oa_astA h (n := 8) (n2 := 8) rfl hv24 rfl hv1 rfl rfl (by omega) (by decide) dL_drawn_168 ?_
        have hr := o_rfd_mk 16 24 0 n (S1.1 16 48 n) S1
        generalize s_rf S1 16 24 0 n (S1.1 16 48 n) = S3 at hr ⊢
        rw [← hr.1]
        have hD3 : o_dS E (n + 1) (fun _ _ => 0) sv S0 μ0 S3 _ := o_dS_row hD (by omega) hw hr (μ3 := (ch_st (ch_st (ch_st (ch_st (ch_st (ch_st (ch_st (ch_st μ1 16 48 n 0 (nI (a_md (a_cl E (1 + n)) 1000))) 16 48 n 1 (nI (a_md ((a_cl E (1 + n)) >>> (4 &&& 31)) 1000))) 16 48 n 2 (nI (40 + a_md ((a_cl E (1 + n)) >>> (8 &&& 31)) 60))) 16 48 n 3 (nI (1 + a_md ((a_cl E (1 + n)) >>> (10 &&& 31)) 12))) 16 48 n 4 (nI (1 + a_md ((a_cl E (1 + n)) >>> (12 &&& 31)) 2))) 16 48 n 5 (nI (a_md ((a_cl E (1 + n)) >>> (14 &&& 31)) 3))) 16 48 n 6 (nI (a_md ((a_cl E (1 + n)) >>> (16 &&& 31)) 30))) 16 48 n 7 (nI (a_md ((a_cl E (1 + n)) >>> (18 &&& 31)) 60)))) (fun k kd i g => by (repeat rw [ch_st_ne g])) (fun f hf => by
          rcases (show f = 0 ∨ f = 1 ∨ f = 2 ∨ f = 3 ∨ f = 4 ∨ f = 5 ∨ f = 6 ∨ f = 7 by omega) with rfl | rfl | rfl | rfl | rfl | rfl | rfl | rfl <;> simp [ch_st_at, a_cv])
        refine ca_iinc h dL_drawn_169 rfl ik_1 rfl ?_
        rw [show nI n + 1 = nI (n + 1) from nI_1 _]
        refine ca_goto (tgt := 28) h dL_drawn_172 (by decide) ?_
        refine ca_pick [2, 3, 4, 5, 0] rfl ?_
        refine ca_widen (k := 32 + (n + 1)) (n := 272 + 8 * (n + 1)) (by omega) (by omega) ?_
        exact ih_28 (n + 1) (by omega) S3 _ hD3
  refine ca_pick [0, 1, 2, 3, 4] rfl ?_
  exact loop_28 (a_C E) 0 (Nat.zero_add _) Sa μ hD
set_option maxHeartbeats 200000 in
theorem c_L_drawn {l : Launch} {E : ch_E} {S : ch_S} {μ : ch_M} (hw19 : S.2.1 19 46 0) (hF : ∃ F, ∀ kd i, F ≤ i → ¬ S.2.1 18 kd i) : ch_C E l yL_drawn cL_drawn 7 (some (FieldType.object "CellHandoverLaw$Own")) 3 37 312 S μ [.ref (ch_sb E), .int 0] (o_DR E S μ) := by
  refine ch_enter rfl rfl ?_
  intro X hl0 h hG hR hnm
  have h : ch_H X E RL cL_drawn 7 := h
  show ch_W X E 7 S μ 0 0 0 [(0, .ref (ch_sb E)), (1, .int 0)] []
  refine oa_newO 16 22 0 h (ci := 13) hG (Or.inr ⟨19, 46, 0, hw19⟩) rfl rfl li_X13 tyX13 tyX13_ok dvX13 rfl kw_787 kw_728 kw_18 ⟨by omega, by omega⟩ dL_drawn_0 ?_
  intro S1 μ1 hw
  have hF1 : ∃ F, ∀ kd i, F ≤ i → ¬ S1.2.1 18 kd i := by rw [o_nw_v hw (by decide)]; exact hF
  show ch_W X E 7 S1 μ1 _ _ _ _ _
  refine ca_dup h dL_drawn_3 rfl ?_
  refine ca_callIN h hG (host := "CellHandoverLaw") (List.mem_of_getElem? (i := 12) rfl) kw_789 kw_18 kw_790 (n := 0) ⟨by decide, by decide, by decide +kernel⟩ rfl (c_X13_init hw.1 hF1) rfl rfl rfl rfl ⟨by omega, by omega⟩ rfl dL_drawn_4 ?_
  intro v S2 μ2 hp
  obtain ⟨rfl, hk, hn22, hst, hz, h22⟩ := hp
  rw [← hn22]
  show ch_W X E 7 S2 μ2 _ _ _ _ (.ref (S2.1 16 22 0) :: _)
  refine ca_astore_n h dL_drawn_7 rfl ?_
  refine ca_aload_nr h dL_drawn_8 rfl ?_
  refine ca_iload_n h dL_drawn_9 rfl ?_
  refine oa_s h hG ms_L_23 (c_L_cell (k := 0) (by decide)) rfl rfl rfl rfl ⟨by omega, by omega⟩ rfl dL_drawn_10 ?_
  refine ca_istore_n h dL_drawn_13 rfl ?_
  refine ca_aload_nr h dL_drawn_14 rfl ?_
  refine ca_iconst h dL_drawn_15 ik_1 ?_
  refine ca_iload_n h dL_drawn_16 rfl ?_
  refine ca_iconst h dL_drawn_17 ik_5 ?_
  refine oa_s h hG ms_L_27 (c_L_most (by decide) (by decide)) rfl rfl rfl rfl ⟨by omega, by omega⟩ rfl dL_drawn_18 ?_
  refine ca_iadd h dL_drawn_21 ?_
  refine ca_top (y := nI (a_C E)) (show nI 1 + _ = _ from nI_add ..) ?_
  refine pi_L_31 h (hst.1 _ _ _ ⟨rfl, rfl⟩) dL_drawn_22 ?_
  have hm2 : ∀ j, j < 9 → μ2 16 22 0 j = if j = 3 then 4 else if j = 4 then 2 else if j = 5 then 5 else if j = 6 then 4 else if j = 7 then 5 else if j = 8 then 3 else 0 := fun j hj => by
    rw [h22]
    simp only [ch_st_at, true_and, (hw.2.1 j).1]
    rcases (show j = 0 ∨ j = 1 ∨ j = 2 ∨ j = 3 ∨ j = 4 ∨ j = 5 ∨ j = 6 ∨ j = 7 ∨ j = 8 by omega) with rfl | rfl | rfl | rfl | rfl | rfl | rfl | rfl | rfl <;> simp
  have hD : o_dS E 0 (fun _ _ => 0) (fun j => if j = 0 then 4 else if j = 1 then 2 else if j = 2 then 5 else if j = 3 then 4 else if j = 4 then 5 else 3) S μ S2 (ch_st μ2 16 22 0 0 (nI (a_C E))) := by
    refine ⟨fun k hk' => ⟨(hk k hk').1.trans (o_nw_a hw hk'), (hk k hk').2.1.trans (o_nw_v hw hk'), (hk k hk').2.2.1.trans (o_nw_r hw hk'), ?_⟩, hst, ⟨?_, ?_, ?_⟩, fun j hj => ?_, fun c f hc => absurd hc (Nat.not_lt_zero _), fun a b ha hb => ?_, fun i b h16 h34 => ?_⟩
    · unfold ch_st; rw [up_n hk']; exact (hk k hk').2.2.2.trans (o_nw_m hw hk')
    · rw [ch_st_at, if_pos ⟨rfl, rfl, rfl, rfl⟩]
    · rw [ch_st_at, if_neg (by decide)]; exact hm2 1 (by decide)
    · rw [ch_st_at, if_neg (by decide)]; exact hm2 2 (by decide)
    · rw [ch_st_at, if_neg (by omega), hm2 (3 + j) (by omega)]
      rcases (show j = 0 ∨ j = 1 ∨ j = 2 ∨ j = 3 ∨ j = 4 ∨ j = 5 by omega) with rfl | rfl | rfl | rfl | rfl | rfl <;> rfl
    · rw [ch_st_at, if_neg (by omega)]; exact hz (8 + a) (by omega) (by omega) b
    · rw [ch_st_at, if_neg (by omega)]; exact hz i (by omega) h34 b
  have hb6 : p_b6 (fun j => if j = 0 then 4 else if j = 1 then 2 else if j = 2 then 5 else if j = 3 then 4 else if j = 4 then 5 else 3) := by unfold p_b6; decide
  generalize ch_st μ2 16 22 0 0 (nI (a_C E)) = μ3 at hD ⊢
  refine ca_iconst h dL_drawn_25 ik_0 ?_
  refine ca_istore h dL_drawn_26 rfl ?_
  exact ca_pick [3, 4, 2, 1, 0] rfl (c_drA h hG hR hb6 hD)
