set_option maxHeartbeats 400000 in
theorem c_lawE {X : ch_X} {E : ch_E} {hy : Nat → Nat → Int32} {sv : Nat → Nat} {j : Nat} {S S0 : ch_S} {μ μ0 : ch_M} (h : ch_H X E RL cL_law 12) (hG : ch_G X 10 687974 7037776) (kend : ∀ (S : ch_S) (μ : ch_M) (L : List (Nat × Value)), ch_W X E 12 S μ 687974 7037776 486 L [.int 1]) (hs : ch_Std E S) (hD : o_dS E (a_C E) hy sv S μ S μ) (hk : o_hyk (a_C E) hy) (h6 : p_b6 sv) (hLD : o_LD (a_C E) (a_cv E) hy sv (μ 0)) (hc : ∀ k, k < 15 → k_c8 (μ k)) (hm0 : k_m0 (μ 0)) (hu : μ 15 14 0 0 = 0) (hj : j < 12) (hnx : μ 15 14 0 1 = nI j) : ch_W X E 12 S μ 2090 26900 70 [(0, .ref (ch_sb E)), (1, .ref (S.1 15 11 0)), (3, .ref (S.1 16 22 0)), (4, .int (nI (a_C E)))] [] := by
  have hC5 := a_C5 E
  have hN := LD_NW hLD hD hk h6 (hc 0 (by decide))
  have hJ := LD_sJ hLD (by omega) hk h6 hm0 (a_cv_b E)
  have hcc := LD_cc hLD (by omega)
  have hgd := NW_gd hN hcc
  obtain ⟨Sa, rfl⟩ : ∃ z, z = S := ⟨_, rfl⟩
  refine ca_iload h dL_law_70 rfl ?_
  refine ca_aload_nr h dL_law_72 rfl ?_
  refine gi_L_31 h (hD.2.1.1 _ _ _ ⟨rfl, rfl⟩) dL_law_73 ?_
  refine ca_top (y := nI (a_C E)) hD.2.2.1.1 ?_
  refine ca_icmp_ne (tgt := 87) h dL_law_76 (by decide) (fun c_76 => ?_) (fun c_76 => ?_)
  · exact absurd rfl c_76
  ·
    refine ca_aload_nr h dL_law_79 rfl ?_
    refine ca_aload_nr h dL_law_80 rfl ?_
    refine oa_S h hG ms_L_273 (c_L_isSound hs rfl hN hJ.2.1 hJ.2.2.1.age (s_J_Snd hJ (by decide))) rfl rfl rfl rfl ⟨by omega, by omega⟩ rfl dL_law_81 ?_
    intro v S1 μ1 hp
    obtain ⟨rfl, hS1, hf⟩ := hp
    replace hS1 := hS1.symm
    subst hS1
    refine ca_if_ne (tgt := 89) h dL_law_84 (by decide) (fun c_84 => ?_) (fun c_84 => ?_)
    ·
      refine ca_aload_nr h dL_law_89 rfl ?_
      refine oa_v h hG ml_L_277 (c_X11_saveSnapshot hs) (ci := 11) rfl rfl rfl (hs.1 _ _ _ ⟨rfl, rfl⟩) rfl rfl rfl rfl ⟨by omega, by omega⟩ rfl dL_law_90 ?_
      obtain ⟨μ2, hμ2⟩ : ∃ z, z = up (up μ1 2 (k_cp (μ1 2) (μ1 0))) 15 (nw (μ1 15) 11 0 7 1) := ⟨_, rfl⟩
      rw [← hμ2]
      have f0 : μ1 0 = μ 0 := hf.1 0 (by decide)
      have b0 : μ2 0 = μ 0 := by rw [hμ2, up_n (by decide), up_n (by decide)]; exact f0
      have b16 : ∀ k, 16 ≤ k → μ2 k = μ k := fun k h => by rw [hμ2, up_n (by omega), up_n (by omega)]; exact hf.1 k (by omega)
      have b15 : μ2 15 = nw (μ1 15) 11 0 7 1 := by rw [hμ2, up_s]
      have bc : ∀ k, k < 15 → k_c8 (μ2 k) := fun k hk => by
        by_cases g : k = 2
        · rw [g, hμ2, up_n (by decide), up_s, hf.1 2 (by decide), f0]; exact k_cp_c8 (hc 2 (by decide)) (hc 0 (by decide))
        · rw [hμ2, up_n (by omega), up_n g, hf.1 k (by omega)]; exact hc k hk
      have e2 : k_ag (μ2 2) (μ 0) := by rw [hμ2, up_n (by decide), up_s, f0]; exact k_cp_ag _ _
      have b2 : o_gd (a_C E) (μ2 2) := gd_ag e2 (bc 2 (by decide)) hgd
      obtain ⟨bf, hbf0⟩ : ∃ z, z = a_all (μ 0) := ⟨_, rfl⟩
      have hbf : a_all (μ2 2) = bf := by rw [hbf0]; exact a_all_ag e2 hgd.1
      have b11 : ¬ μ2 15 11 0 7 = 0 := by rw [b15, nw_at, if_pos ⟨rfl, rfl, rfl⟩]; decide
      have b14a : μ2 15 14 0 0 = nI 0 := by rw [b15, nw_k (by decide), hf.2 14 (by decide)]; exact hu
      have b14b : μ2 15 14 0 1 = nI j := by rw [b15, nw_k (by decide), hf.2 14 (by decide)]; exact hnx
      refine ca_aload_nr h dL_law_93 rfl ?_
      refine ca_aload_nr h dL_law_94 rfl ?_
      refine oa_s h hG ms_L_248 (c_L_all hs (hD.2.1.1 _ _ _ ⟨rfl, rfl⟩) (by rw [b0]; exact hgd.1) (by rw [b0]; exact hgd.2.1) (by rw [b0, b16 16 (by decide), hcc]; exact hD.2.2.1.1)) rfl rfl rfl rfl ⟨by omega, by omega⟩ rfl dL_law_95 ?_
      rw [b0, ← hbf0]
      refine ca_istore h dL_law_98 rfl ?_
      refine ca_bipush h dL_law_100 bk_12 ?_
      refine oa_newI 19 52 0 (n := 12) h hG (Or.inr ⟨16, 22, 0, hD.2.1.1 _ _ _ ⟨rfl, rfl⟩⟩) rfl kw_67 rfl (by omega) ⟨by omega, by omega⟩ dL_law_102 ?_
      intro S μ3 hw
      rw [← (hw.2.2 15 11 0 (by omega)).1, ← (hw.2.2 16 22 0 (by omega)).1]
      have hs1 : ch_Std E S := std_fr hs (fun k hk => ⟨o_nw_a hw (by omega), o_nw_v hw (by omega), o_nw_r hw (by omega)⟩)
      have c0 : ∀ k, k ≠ 19 → μ3 k = μ2 k := fun k h => o_nw_m hw h
      have hN3 : o_NW (μ3 0) (o_gw (μ 0) (p_pa hy (a_C E) (a_C E))) S μ3 := by
        rw [c0 0 (by decide), b0]
        exact o_NW_x hN (o_nw_a hw (by decide)) (o_nw_a hw (by decide)) (o_nw_v hw (by decide)) (o_nw_v hw (by decide)) (o_nw_r hw (by decide)) ((c0 16 (by decide)).trans (b16 16 (by decide))) ((c0 18 (by decide)).trans (b16 18 (by decide)))
      have hX : o_LX E 0 0 bf 0 j (fun _ => 0) S μ3 := by
        refine ⟨⟨hs1, ⟨(hw.2.2 16 22 0 (by omega)).2.1.mpr (hD.2.1.1 _ _ _ ⟨rfl, rfl⟩), hw.1⟩, by rw [c0 16 (by decide), b16 16 (by decide)]; exact hD.2.2.1.1, fun k hk => by rw [c0 k (by omega)]; exact bc k hk, ⟨a_all (μ 0), by rw [c0 0 (by decide), b0]; exact ⟨hgd, hJ, ⟨0, hLD.1.2.2.2, Nat.le_refl _⟩, rfl⟩⟩, ⟨by omega, hj, by rw [c0 15 (by decide)]; exact b14a, by rw [c0 15 (by decide)]; exact b14b, fun i hi => absurd hi (Nat.not_lt_zero _)⟩, ?_⟩, fun i hi => absurd hi (Nat.not_lt_zero _)⟩
        unfold o_SN
        rw [c0 2 (by decide), c0 15 (by decide)]
        exact ⟨b2, hbf, b11⟩
      refine ca_astore h dL_law_104 rfl ?_
      refine ca_iconst h dL_law_106 ik_0 ?_
      refine ca_istore h dL_law_107 rfl ?_
      refine ca_iconst h dL_law_109 ik_0 ?_
      refine ca_istore h dL_law_110 rfl ?_
      refine ca_widen (k := 2100) (n := 27000) (by omega) (by omega) ?_
      exact ca_pick [4, 5, 6, 3, 2, 1, 0] rfl (c_lawD (S0 := S) (μ0 := μ3) h hG kend hX hN3)
    · exact absurd c_84 (by decide)
set_option maxHeartbeats 400000 in
theorem c_lawN {X : ch_X} {E : ch_E}  {S S0 : ch_S} {μ μ0 : ch_M} (h : ch_H X E RL cL_law 12) (hG : ch_G X 10 687974 7037776) (kend1 : ∀ (S : ch_S) (μ : ch_M) (L : List (Nat × Value)), ch_W X E 12 S μ 687974 7037776 69 L [.int 1])  : ch_W X E 12 S μ 2090 26900 59 [(0, .ref (ch_sb E))] [.int (-99)] := by
  refine ca_istore h dL_law_59 rfl ?_
  refine ca_iload h dL_law_61 rfl ?_
  refine ca_bipush h dL_law_63 bk_m99 ?_
  refine ca_icmp_ne (tgt := 70) h dL_law_65 (by decide) (fun c_65 => ?_) (fun c_65 => ?_)
  · exact absurd rfl c_65
  ·
    refine ca_iconst h dL_law_68 ik_1 ?_
    refine ca_widen (k := 687974) (n := 7037776) (by omega) (by omega) ?_
    exact kend1 _ _ _
set_option maxHeartbeats 400000 in
theorem c_lawP {X : ch_X} {E : ch_E} {hy : Nat → Nat → Int32} {sv : Nat → Nat} {j : Nat} {S S0 : ch_S} {μ μ0 : ch_M} (h : ch_H X E RL cL_law 12) (hG : ch_G X 10 687974 7037776) (kend : ∀ (S : ch_S) (μ : ch_M) (L : List (Nat × Value)), ch_W X E 12 S μ 687974 7037776 486 L [.int 1]) (hs : ch_Std E S) (hD : o_dS E (a_C E) hy sv S μ S μ) (hk : o_hyk (a_C E) hy) (h6 : p_b6 sv) (hLD : o_LD (a_C E) (a_cv E) hy sv (μ 0)) (hc : ∀ k, k < 15 → k_c8 (μ k)) (hm0 : k_m0 (μ 0)) (hu : μ 15 14 0 0 = 0) (hj : j < 12) (hnx : μ 15 14 0 1 = nI j) : ch_W X E 12 S μ 2090 26900 59 [(0, .ref (ch_sb E)), (1, .ref (S.1 15 11 0)), (3, .ref (S.1 16 22 0))] [.int (nI (a_C E))] := by
  refine ca_istore h dL_law_59 rfl ?_
  refine ca_iload h dL_law_61 rfl ?_
  refine ca_bipush h dL_law_63 bk_m99 ?_
  refine ca_icmp_ne (tgt := 70) h dL_law_65 (by decide) (fun c_65 => ?_) (fun c_65 => ?_)
  ·
    exact ca_pick [1, 2, 3, 0] rfl (c_lawE (S0 := S) (μ0 := μ) h hG kend hs hD hk h6 hLD hc hm0 hu hj hnx)
  · exact absurd (show nI (a_C E) = -99 from c_65) (fun z => nI_pos (n := a_C E) (by have := a_C5 E; omega) (by rw [z]; decide))
