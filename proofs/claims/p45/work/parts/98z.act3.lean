theorem r_crd {a : Nat} (h : a < 1000) : k_rg 0 999 (nI a) := ⟨nI_pos (by omega), nI_nlt (a := 999) (by omega) (by decide)⟩
theorem r_vl2 {a : Nat} (h : a < 199) : k_rg (-99) 99 (nI a - 99) := by
  have key : ∀ a, a < 199 → ¬ nI a - 99 < -99 ∧ ¬ 99 < nI a - 99 := by decide +kernel
  exact key a h
set_option maxHeartbeats 800000 in
theorem c_actA {X : ch_X} {E : ch_E} {n : ch_N} {B j : Nat} {S S0 : ch_S} {μ μ0 : ch_M} (h : ch_H X E RL cL_act 11) (hG : ch_G X 7 11 29) (hR : ch_R X E (some FieldType.int) 11 29 (o_PA n B j S μ)) {w : Nat → Int32} (hs : ch_Std E S) (e0 : μ 0 = n) (hN : o_NW n w S μ) (hJ : s_J B n) (hB : B + 2 < 2 ^ 31) (hj : j < 12) (hnx : μ 15 14 0 1 = nI j) {v u : Int32} {W m : Nat} : ch_W X E 11 S μ 0 0 24 [(0, .ref (S.1 15 11 0)), (1, .ref (S.1 16 22 0)), (2, .int v), (3, .int (nI W)), (4, .int u)] [] := by
  have hm12 := hN.m12
  have hc8 := hN.c8
  obtain ⟨M, hM⟩ : ∃ M, M = k_mc n := ⟨_, rfl⟩
  obtain ⟨Sa, rfl⟩ : ∃ z, z = S := ⟨_, rfl⟩
  refine oa_newO 16 23 M h (ci := 12) hG (ch_bs16 hN.st) rfl rfl li_X12 tyX12 tyX12_ok dvX12 rfl kw_1040 kw_739 kw_25 ⟨by omega, by omega⟩ dL_act_24 ?_
  intro S1 μ1 hw
  rw [← (hw.2.2 15 11 0 (by omega)).1, ← (hw.2.2 16 22 0 (by omega)).1]
  have hF1 : ∃ F, ∀ kd i, F ≤ i → ¬ S1.2.1 18 kd i := by rw [o_nw_v hw (by decide)]; exact hN.st.2.2
  show ch_W X E 11 S1 μ1 _ _ _ _ _
  refine ca_dup h dL_act_27 rfl ?_
  refine ca_callIN h hG (host := "CellHandoverLaw") (List.mem_of_getElem? (i := 13) rfl) kw_1042 kw_25 kw_1043 (n := 0) ⟨by decide, by decide, by decide +kernel⟩ rfl (c_X12_init (m := M) hw.1 hF1) rfl rfl rfl rfl ⟨by omega, by omega⟩ rfl dL_act_28 ?_
  intro v S μ2 hp
  obtain ⟨rfl, hi⟩ := hp
  have f15 := hi.1 15 (by decide) (by decide)
  have q22 := hi.2.2.2.1 22 0 (by omega) (by omega)
  have q23 := hi.2.2.2.1 23 M (by omega) (by omega)
  rw [← f15.1, ← q22.1, ← q23.1]
  have fa : o_fa Sa μ S μ2 := fun k a b c d e => ⟨(hi.1 k a c).1.trans (o_nw_a hw a), (hi.1 k a c).2.1.trans (o_nw_v hw a), (hi.1 k a c).2.2.1.trans (o_nw_r hw a), (hi.1 k a c).2.2.2.trans (o_nw_m hw a)⟩
  have f18 : ∀ kd i, Sa.2.1 18 kd i → S.2.1 18 kd i ∧ S.1 18 kd i = Sa.1 18 kd i ∧ μ2 18 kd i = μ 18 kd i := fun kd i z => by
    obtain ⟨a, b, c⟩ := hi.2.1 kd i (by rw [o_nw_v hw (by decide)]; exact z)
    exact ⟨a, by rw [b, o_nw_a hw (by decide)], by rw [c, o_nw_m hw (by decide)]⟩
  have f16 : ∀ kd i, ¬ (kd = 48 ∧ i = 40 + M) → ¬ (kd = 24 ∧ i = 8 + M) → ¬ (kd = 23 ∧ i = M) → S.1 16 kd i = Sa.1 16 kd i ∧ (S.2.1 16 kd i ↔ Sa.2.1 16 kd i) ∧ S.2.2 16 kd i = Sa.2.2 16 kd i ∧ μ2 16 kd i = μ 16 kd i := fun kd i h1 h2 h3 => by
    obtain ⟨a, b, c⟩ := hi.2.2.2.1 kd i h1 h2
    obtain ⟨a', b', c', d'⟩ := hw.2.2 16 kd i (fun z => h3 z.2)
    exact ⟨a.trans a', b.trans b', (c h3).1.trans c', (c h3).2.trans d'⟩
  have hv23 : S.2.1 16 23 M := q23.2.1.mpr hw.1
  have hff : ∀ f, μ2 16 23 M f = if f = 5 ∨ f = 8 then -1 else 0 := fun f => by rw [hi.2.2.2.2.2.1 f, (hw.2.1 f).1]
  have hN2 : o_NW n w S μ2 := o_NW_out hN (M := M) (by omega) hi.2.2.1 f18 f16
  have hs2 := o_fa_std fa hs
  show ch_W X E 11 S μ2 _ _ _ _ (.ref (S.1 16 23 M) :: _)
  refine ca_astore h dL_act_31 rfl ?_
  refine ca_aload h dL_act_33 rfl ?_
  refine ca_iload h dL_act_35 rfl ?_
  refine ca_sipush h dL_act_37 sk_1000 ?_
  refine oa_s h hG ms_L_27 (c_L_most (by decide) (by decide)) rfl rfl rfl rfl ⟨by omega, by omega⟩ rfl dL_act_40 ?_
  refine pi_L_161 h hv23 dL_act_43 ?_
  refine ca_aload h dL_act_46 rfl ?_
  refine ca_iload h dL_act_48 rfl ?_
  refine ca_iconst h dL_act_50 ik_3 ?_
  refine ca_ishr h dL_act_51 ?_
  refine ca_sipush h dL_act_52 sk_1000 ?_
  refine oa_s h hG ms_L_27 (c_L_most (by decide) (by decide)) rfl rfl rfl rfl ⟨by omega, by omega⟩ rfl dL_act_55 ?_
  refine pi_L_168 h hv23 dL_act_58 ?_
  refine ca_aload h dL_act_61 rfl ?_
  refine ca_iload h dL_act_63 rfl ?_
  refine ca_iconst h dL_act_65 ik_5 ?_
  refine ca_ishr h dL_act_66 ?_
  refine ca_sipush h dL_act_67 sk_199 ?_
  refine oa_s h hG ms_L_27 (c_L_most (by decide) (by decide)) rfl rfl rfl rfl ⟨by omega, by omega⟩ rfl dL_act_70 ?_
  refine ca_bipush h dL_act_73 bk_99 ?_
  refine ca_isub h dL_act_75 ?_
  refine pi_L_217 h hv23 dL_act_76 ?_
  refine ca_aload h dL_act_79 rfl ?_
  refine ca_iload h dL_act_81 rfl ?_
  refine ca_bipush h dL_act_83 bk_7 ?_
  refine ca_ishr h dL_act_85 ?_
  refine ca_sipush h dL_act_86 sk_199 ?_
  refine oa_s h hG ms_L_27 (c_L_most (by decide) (by decide)) rfl rfl rfl rfl ⟨by omega, by omega⟩ rfl dL_act_89 ?_
  refine ca_bipush h dL_act_92 bk_99 ?_
  refine ca_isub h dL_act_94 ?_
  refine pi_L_220 h hv23 dL_act_95 ?_
  refine ca_aload_nr h dL_act_98 rfl ?_
  refine gi_L_105 h (hN2.st.1 _ _ _ (by show _ ∧ _; omega)) dL_act_99 ?_
  refine ca_top (y := nI M) (by (repeat rw [ch_st_at, if_neg (by omega)]); exact hN2.many.trans (by rw [hM])) ?_
  refine ca_bipush h dL_act_102 bk_12 ?_
  refine ca_icmp_ne (tgt := 112) h dL_act_104 (by decide) (fun c_104 => ?_) (fun c_104 => ?_)
  ·
    have hM12 : M < 12 := by rcases Nat.lt_or_ge M 12 with z | z; (· exact z); (· exact absurd (show nI M = 12 by rw [show M = 12 by omega]; rfl) c_104)
    refine ca_aload_nr h dL_act_112 rfl ?_
    refine gi_L_105 h (hN2.st.1 _ _ _ (by show _ ∧ _; omega)) dL_act_113 ?_
    refine ca_top (y := nI M) (by (repeat rw [ch_st_at, if_neg (by omega)]); exact hN2.many.trans (by rw [hM])) ?_
    refine ca_istore h dL_act_116 rfl ?_
    refine ca_iload h dL_act_118 rfl ?_
    refine ca_if_lt (tgt := 141) h dL_act_120 (by decide) (fun c_120 => ?_) (fun c_120 => ?_)
    · exact absurd c_120 (nI_pos (by omega))
    ·
      refine ca_aload_nr h dL_act_123 rfl ?_
      refine gr_L_154 h (hN2.st.1 _ _ _ (by show _ ∧ _; omega)) (hN2.st.2.1 _ _ _ _ _ (by show _ ∧ _; omega) rfl) dL_act_124 ?_
      show ch_W X E _ _ _ _ _ _ _ (.ref (S.1 16 25 0) :: _)
      refine ca_aload_nr h dL_act_127 rfl ?_
      refine ca_dup h dL_act_128 rfl ?_
      refine gi_L_105 h (hN2.st.1 _ _ _ (by show _ ∧ _; omega)) dL_act_129 ?_
      refine ca_top (y := nI M) (by (repeat rw [ch_st_at, if_neg (by omega)]); exact hN2.many.trans (by rw [hM])) ?_
      refine oa_dupx1 h dL_act_132 rfl rfl ?_
      refine ca_iconst h dL_act_133 ik_1 ?_
      refine ca_iadd h dL_act_134 ?_
      refine pi_L_105 h (hN2.st.1 _ _ _ (by show _ ∧ _; omega)) dL_act_135 ?_
      refine ca_aload h dL_act_138 rfl ?_
      refine oa_astO h rfl (by decide) rfl (hN2.st.1 _ _ _ (by show _ ∧ _; omega)) hv23 rfl rfl rfl rfl (by omega) (by decide) dL_act_140 ?_
      have hr := o_rfd_mk 16 25 0 M (S.1 16 23 M) S
      generalize s_rf S 16 25 0 M (S.1 16 23 M) = S3 at hr ⊢
      rw [← hr.1]
      have hs3 : ch_Std E S3 := std_fr hs2 (fun k hk => ⟨by rw [hr.1], by rw [hr.2.1], by funext a b c; exact hr.2.2.2 k a b c (by omega)⟩)
      have fa3 : o_fa Sa μ S3 (ch_st (ch_st (ch_st (ch_st (ch_st μ2 16 23 M 0 (nI (a_md u 1000))) 16 23 M 1 (nI (a_md (u >>> (3 &&& 31)) 1000))) 16 23 M 2 (nI (a_md (u >>> (5 &&& 31)) 199) - 99)) 16 23 M 3 (nI (a_md (u >>> (7 &&& 31)) 199) - 99)) 16 22 0 1 (nI M + 1)) := fun k a b c d e => ⟨by rw [hr.1]; exact (fa k a b c d e).1, by rw [hr.2.1]; exact (fa k a b c d e).2.1, by rw [show S3.2.2 k = S.2.2 k by funext x y z; exact hr.2.2.2 k x y z (fun q => a q.1)]; exact (fa k a b c d e).2.2.1, by (repeat rw [o_st_x a]); exact (fa k a b c d e).2.2.2⟩
      have e1 : (ch_st (ch_st (ch_st (ch_st (ch_st μ2 16 23 M 0 (nI (a_md u 1000))) 16 23 M 1 (nI (a_md (u >>> (3 &&& 31)) 1000))) 16 23 M 2 (nI (a_md (u >>> (5 &&& 31)) 199) - 99)) 16 23 M 3 (nI (a_md (u >>> (7 &&& 31)) 199) - 99)) 16 22 0 1 (nI M + 1)) 0 = n := (fa3 0 (by decide) (by decide) (by decide) (by decide) (by decide)).2.2.2.trans e0
      have hn1 : (ch_st (ch_st (ch_st (ch_st (ch_st μ2 16 23 M 0 (nI (a_md u 1000))) 16 23 M 1 (nI (a_md (u >>> (3 &&& 31)) 1000))) 16 23 M 2 (nI (a_md (u >>> (5 &&& 31)) 199) - 99)) 16 23 M 3 (nI (a_md (u >>> (7 &&& 31)) 199) - 99)) 16 22 0 1 (nI M + 1)) 15 14 0 1 = nI j := by rw [(fa3 15 (by decide) (by decide) (by decide) (by decide) (by decide)).2.2.2]; exact hnx
      have hMT : (ch_st (ch_st (ch_st (ch_st (ch_st μ2 16 23 M 0 (nI (a_md u 1000))) 16 23 M 1 (nI (a_md (u >>> (3 &&& 31)) 1000))) 16 23 M 2 (nI (a_md (u >>> (5 &&& 31)) 199) - 99)) 16 23 M 3 (nI (a_md (u >>> (7 &&& 31)) 199) - 99)) 16 22 0 1 (nI M + 1)) 0 0 0 2 = nI M := by rw [e1, a_mc hN.rn, ← hM]
      refine ca_aload_nr h dL_act_141 rfl ?_
      refine ca_aload h dL_act_142 rfl ?_
      refine gi_L_161 h (by rw [hr.2.1]; exact hv23) dL_act_144 ?_
      refine ca_top (y := (nI (a_md u 1000))) (by repeat (first | rw [ch_st_at, if_pos ⟨rfl, rfl, rfl, rfl⟩] | rw [ch_st_at, if_neg (by omega)])) ?_
      refine ca_aload h dL_act_147 rfl ?_
      refine gi_L_168 h (by rw [hr.2.1]; exact hv23) dL_act_149 ?_
      refine ca_top (y := (nI (a_md (u >>> (3 &&& 31)) 1000))) (by repeat (first | rw [ch_st_at, if_pos ⟨rfl, rfl, rfl, rfl⟩] | rw [ch_st_at, if_neg (by omega)])) ?_
      refine ca_aload h dL_act_152 rfl ?_
      refine gi_L_217 h (by rw [hr.2.1]; exact hv23) dL_act_154 ?_
      refine ca_top (y := (nI (a_md (u >>> (5 &&& 31)) 199) - 99)) (by repeat (first | rw [ch_st_at, if_pos ⟨rfl, rfl, rfl, rfl⟩] | rw [ch_st_at, if_neg (by omega)])) ?_
      refine ca_aload h dL_act_157 rfl ?_
      refine gi_L_220 h (by rw [hr.2.1]; exact hv23) dL_act_159 ?_
      refine ca_top (y := (nI (a_md (u >>> (7 &&& 31)) 199) - 99)) (by repeat (first | rw [ch_st_at, if_pos ⟨rfl, rfl, rfl, rfl⟩] | rw [ch_st_at, if_neg (by omega)])) ?_
      refine oa_v h hG ml_L_223 (c_X11_addMobile hs3 (r_crd (a_md_lt (by decide))) (r_crd (a_md_lt (by decide))) (r_vl2 (a_md_lt (by decide))) (r_vl2 (a_md_lt (by decide))) hj hn1 (M := M) hMT hM12) (ci := 11) rfl rfl rfl (hs3.1 _ _ _ ⟨rfl, rfl⟩) rfl rfl rfl rfl ⟨by omega, by omega⟩ rfl dL_act_162 ?_
      rw [e1]
      refine ca_iload h dL_act_165 rfl ?_
      refine ca_icmp_eq (tgt := 174) h dL_act_167 (by decide) (fun c_167 => ?_) (fun c_167 => ?_)
      ·
        refine ca_iload h dL_act_174 rfl ?_
        refine ca_if_ge (tgt := 183) h dL_act_176 (by decide) (fun c_176 => ?_) (fun c_176 => ?_)
        ·
          refine ca_iconst h dL_act_183 ik_1 ?_
          refine ca_widen (k := 11) (n := 29) (by omega) (by omega) ?_
          refine ca_ireturn h hR rfl dL_act_184 ?_
          have hb : ∀ f, f < 11 → (ch_st (ch_st (ch_st (ch_st (ch_st μ2 16 23 M 0 (nI (a_md u 1000))) 16 23 M 1 (nI (a_md (u >>> (3 &&& 31)) 1000))) 16 23 M 2 (nI (a_md (u >>> (5 &&& 31)) 199) - 99)) 16 23 M 3 (nI (a_md (u >>> (7 &&& 31)) 199) - 99)) 16 22 0 1 (nI M + 1)) 16 23 M f = if f = 0 then (nI (a_md u 1000)) else if f = 1 then (nI (a_md (u >>> (3 &&& 31)) 1000)) else if f = 2 then (nI (a_md (u >>> (5 &&& 31)) 199) - 99) else if f = 3 then (nI (a_md (u >>> (7 &&& 31)) 199) - 99) else if f = 5 ∨ f = 8 then -1 else 0 := fun f _ => by
            rw [ch_st_at, if_neg (by omega), ch_st_at, ch_st_at, ch_st_at, ch_st_at, hff]
            by_cases g0 : f = 0
            · subst g0; simp
            · by_cases g1 : f = 1
              · subst g1; simp
              · by_cases g2 : f = 2
                · subst g2; simp
                · by_cases g3 : f = 3
                  · subst g3; simp
                  · simp [g0, g1, g2, g3]
          have hNa : o_NW (k_amN n M (nI (a_md u 1000)) (nI (a_md (u >>> (3 &&& 31)) 1000)) (nI (a_md (u >>> (5 &&& 31)) 199) - 99) (nI (a_md (u >>> (7 &&& 31)) 199) - 99)) (r_amW w M (nI (a_md u 1000)) (nI (a_md (u >>> (3 &&& 31)) 1000)) (nI (a_md (u >>> (5 &&& 31)) 199) - 99) (nI (a_md (u >>> (7 &&& 31)) 199) - 99)) S3 (ch_st (ch_st (ch_st (ch_st (ch_st μ2 16 23 M 0 (nI (a_md u 1000))) 16 23 M 1 (nI (a_md (u >>> (3 &&& 31)) 1000))) 16 23 M 2 (nI (a_md (u >>> (5 &&& 31)) 199) - 99)) 16 23 M 3 (nI (a_md (u >>> (7 &&& 31)) 199) - 99)) 16 22 0 1 (nI M + 1)) := by
            refine o_NW_am hN hM hM12 (r_crd (a_md_lt (by decide))) (r_crd (a_md_lt (by decide))) (by rw [hr.2.1]; exact hi.2.2.1) (fun kd i z => ?_) (fun kd i h1 h2 h3 => ?_) ⟨by rw [hr.2.1]; exact hv23, by rw [hr.2.1]; exact hi.2.2.2.2.1.1, by rw [hr.2.1]; exact hi.2.2.2.2.1.2.1⟩ (by rw [hr.2.2.1, hr.1]) (by rw [hr.2.2.2 _ _ _ _ (by omega), hr.1]; exact hi.2.2.2.2.1.2.2.1) (by rw [hr.2.2.2 _ _ _ _ (by omega), hr.1]; exact hi.2.2.2.2.1.2.2.2) (by rw [ch_st_at, if_pos ⟨rfl, rfl, rfl, rfl⟩, nI_1]) hb (fun c => by rw [ch_st_at, if_neg (by omega), ch_st_at, if_neg (by omega), ch_st_at, if_neg (by omega), ch_st_at, if_neg (by omega), ch_st_at, if_neg (by omega)]; exact hi.2.2.2.2.2.2.1 c) (fun c hc => ?_)
            · obtain ⟨a, b, c⟩ := f18 kd i z
              exact ⟨by rw [hr.2.1]; exact a, by rw [hr.1]; exact b, by (repeat rw [o_st_x (by decide)]); exact c⟩
            · obtain ⟨a, b, c, d⟩ := f16 kd i h1 h2 h3
              refine ⟨by rw [hr.1]; exact a, by rw [hr.2.1]; exact b, fun j hj => by rw [hr.2.2.2 _ _ _ _ (by omega), c], fun j hj => ?_⟩
              rw [ch_st_at, if_neg (by omega), ch_st_at, if_neg (by omega), ch_st_at, if_neg (by omega), ch_st_at, if_neg (by omega), ch_st_at, if_neg (by omega), d]
            · obtain ⟨id, g1, g2⟩ := hi.2.2.2.2.2.2.2 c hc
              exact ⟨id, by rw [hr.2.1]; exact g1, by rw [hr.2.2.2 _ _ _ _ (by omega), hr.1]; exact g2⟩
          exact o_PA_1 fa3 hNa (s_J_mono (s_J_am hJ hM hM12) (Nat.le_succ B)) am_cc (by rw [am_0, if_neg (by decide)]) (by rw [hr.1]; exact (f16 22 0 (by omega) (by omega) (by omega)).1) hj
        · exact absurd c_176 (nI_pos (by omega))
      · exact absurd rfl c_167
  ·
    have hM12e : M = 12 := (nI_eq (b := 12) (by omega) (by decide)).mp c_104
    have hMF : ¬ (ch_st (ch_st (ch_st (ch_st μ2 16 23 M 0 (nI (a_md u 1000))) 16 23 M 1 (nI (a_md (u >>> (3 &&& 31)) 1000))) 16 23 M 2 (nI (a_md (u >>> (5 &&& 31)) 199) - 99)) 16 23 M 3 (nI (a_md (u >>> (7 &&& 31)) 199) - 99)) 0 0 0 2 < 12 := by (repeat rw [o_st_x (show 0 ≠ 16 by decide)]); rw [(fa 0 (by decide) (by decide) (by decide) (by decide) (by decide)).2.2.2, e0, a_mc hN.rn, ← hM, hM12e]; decide
    refine ca_bipush h dL_act_107 bk_m2 ?_
    refine ca_goto (tgt := 116) h dL_act_109 (by decide) ?_
    refine ca_istore h dL_act_116 rfl ?_
    refine ca_iload h dL_act_118 rfl ?_
    refine ca_if_lt (tgt := 141) h dL_act_120 (by decide) (fun c_120 => ?_) (fun c_120 => ?_)
    ·
      refine ca_aload_nr h dL_act_141 rfl ?_
      refine ca_aload h dL_act_142 rfl ?_
      refine gi_L_161 h hv23 dL_act_144 ?_
      refine ca_top (y := (nI (a_md u 1000))) (by repeat (first | rw [ch_st_at, if_pos ⟨rfl, rfl, rfl, rfl⟩] | rw [ch_st_at, if_neg (by omega)])) ?_
      refine ca_aload h dL_act_147 rfl ?_
      refine gi_L_168 h hv23 dL_act_149 ?_
      refine ca_top (y := (nI (a_md (u >>> (3 &&& 31)) 1000))) (by repeat (first | rw [ch_st_at, if_pos ⟨rfl, rfl, rfl, rfl⟩] | rw [ch_st_at, if_neg (by omega)])) ?_
      refine ca_aload h dL_act_152 rfl ?_
      refine gi_L_217 h hv23 dL_act_154 ?_
      refine ca_top (y := (nI (a_md (u >>> (5 &&& 31)) 199) - 99)) (by repeat (first | rw [ch_st_at, if_pos ⟨rfl, rfl, rfl, rfl⟩] | rw [ch_st_at, if_neg (by omega)])) ?_
      refine ca_aload h dL_act_157 rfl ?_
      refine gi_L_220 h hv23 dL_act_159 ?_
      refine ca_top (y := (nI (a_md (u >>> (7 &&& 31)) 199) - 99)) (by repeat (first | rw [ch_st_at, if_pos ⟨rfl, rfl, rfl, rfl⟩] | rw [ch_st_at, if_neg (by omega)])) ?_
      refine oa_v h hG ml_L_223 (c_X11_addMobileF hs2 (r_crd (a_md_lt (by decide))) (r_crd (a_md_lt (by decide))) (r_vl2 (a_md_lt (by decide))) (r_vl2 (a_md_lt (by decide))) hMF) (ci := 11) rfl rfl rfl (hs2.1 _ _ _ ⟨rfl, rfl⟩) rfl rfl rfl rfl ⟨by omega, by omega⟩ rfl dL_act_162 ?_
      refine ca_iload h dL_act_165 rfl ?_
      refine ca_icmp_eq (tgt := 174) h dL_act_167 (by decide) (fun c_167 => ?_) (fun c_167 => ?_)
      ·
        refine ca_iload h dL_act_174 rfl ?_
        refine ca_if_ge (tgt := 183) h dL_act_176 (by decide) (fun c_176 => ?_) (fun c_176 => ?_)
        · exact absurd (by decide) c_176
        ·
          refine ca_iconst h dL_act_179 ik_0 ?_
          refine ca_goto (tgt := 184) h dL_act_180 (by decide) ?_
          refine ca_widen (k := 11) (n := 29) (by omega) (by omega) ?_
          refine ca_ireturn h hR rfl dL_act_184 ?_
          refine o_PA_0 (fun k a b c d e => ⟨(fa k a b c d e).1, (fa k a b c d e).2.1, (fa k a b c d e).2.2.1, by (repeat rw [o_st_x a]); exact (fa k a b c d e).2.2.2⟩) (o_NW_out hN (M := M) (by omega) hi.2.2.1 (fun kd i z => ?_) (fun kd i h1 h2 h3 => ?_)) hJ ((f16 22 0 (by omega) (by omega) (by omega)).1)
          · obtain ⟨a, b, c⟩ := f18 kd i z
            exact ⟨a, b, by (repeat rw [o_st_x (by decide)]); exact c⟩
          · obtain ⟨a, b, c, d⟩ := f16 kd i h1 h2 h3
            exact ⟨a, b, c, by rw [o_st_r (by omega), o_st_r (by omega), o_st_r (by omega), o_st_r (by omega)]; exact d⟩
      · exact absurd rfl c_167
    · exact absurd (by decide) c_120
