set_option maxHeartbeats 400000 in
theorem c_L_isBestM {l : Launch} {E : ch_E} {S : ch_S} {μ : ch_M} {C B u j t T a b : Nat} (hs : ch_Std E S) (hv22 : S.2.1 16 22 0) (hZ : o_Z C μ) (hJ : s_J B (μ 0)) (hB : B + 108 * T + 200 < 2 ^ 31) (ht : μ 0 0 0 3 = nI t) (htT : t + T ≤ 100000) (hT : T ≤ 30) (ha : a < C) (hb : b < C) (hu : μ 15 14 0 0 = nI u) (hu10 : u ≤ 10) (hj : j < 12) (hnx : μ 15 14 0 1 = nI j) (hex : μ 0 2 (8 * a + b) 0 = 0) : ch_C E l yL_isBest cL_isBest 13 (some FieldType.boolean) 8 0 0 S μ [.ref (S.1 15 11 0), .ref (S.1 16 22 0), .int (nI a), .int (nI b), .int (nI T)] (fun v' S' μ' => v' = some (.int 1) ∧ S' = S ∧ o_U j u μ μ') := by
  refine ch_enter rfl rfl ?_
  intro X hl0 h hG hR hnm
  have h : ch_H X E RL cL_isBest 13 := h
  have hw := hZ.wf
  have hmc := hZ.mc
  have hcc := hZ.cc
  have hc8 := hw.2.1
  have hcC := hZ.2.1.2.2
  have hr : 8 * a + b < 64 := by omega
  show ch_W X E 13 S μ 0 0 0 [(0, .ref (S.1 15 11 0)), (1, .ref (S.1 16 22 0)), (2, .int (nI a)), (3, .int (nI b)), (4, .int (nI T))] []
  refine ca_aload_nr h dL_isBest_0 rfl ?_
  refine ca_aload_nr h dL_isBest_1 rfl ?_
  refine oa_s h hG ms_L_248 (c_L_all hs hv22 hw hmc hcc) rfl rfl rfl rfl ⟨Nat.le_refl _, Nat.le_refl _⟩ rfl dL_isBest_2 ?_
  refine ca_istore h dL_isBest_5 rfl ?_
  refine ca_aload_nr h dL_isBest_7 rfl ?_
  refine ca_iload_n h dL_isBest_8 rfl ?_
  refine ca_iload_n h dL_isBest_9 rfl ?_
  refine ca_iload h dL_isBest_10 rfl ?_
  refine oa_v h hG ml_L_261 (c_X11_bestHysteresisM hs hc8 (by rw [hcC]; exact ha) (by rw [hcC]; exact hb) hT (k_tk9_nI (M := 30) ht htT hT (by decide)) hex) (ci := 11) rfl rfl rfl (hs.1 _ _ _ ⟨rfl, rfl⟩) rfl rfl rfl rfl ⟨Nat.le_refl _, Nat.le_refl _⟩ rfl dL_isBest_12 ?_
  refine ca_istore h dL_isBest_15 rfl ?_
  refine ca_aload_nr h dL_isBest_17 rfl ?_
  refine ca_aload_nr h dL_isBest_18 rfl ?_
  refine oa_s h hG ms_L_248 (c_L_all hs hv22 hw hmc hcc) rfl rfl rfl rfl ⟨Nat.le_refl _, Nat.le_refl _⟩ rfl dL_isBest_19 ?_
  refine ca_iload h dL_isBest_22 rfl ?_
  refine ca_icmp_eq (tgt := 29) h dL_isBest_24 (by decide) (fun c_24 => ?_) (fun c_24 => ?_)
  ·
    refine ca_aload_nr h dL_isBest_29 rfl ?_
    refine ca_iload_n h dL_isBest_30 rfl ?_
    refine ca_iload_n h dL_isBest_31 rfl ?_
    refine oa_v h hG ml_L_142 (c_X11_hysteresis hs hc8 (by rw [hcC]; exact ha) (by rw [hcC]; exact hb)) (ci := 11) rfl rfl rfl (hs.1 _ _ _ ⟨rfl, rfl⟩) rfl rfl rfl rfl ⟨Nat.le_refl _, Nat.le_refl _⟩ rfl dL_isBest_32 ?_
    rw [if_pos hex]
    refine ca_if_ge (tgt := 51) h dL_isBest_35 (by decide) (fun c_35 => ?_) (fun c_35 => ?_)
    · exact absurd (show (-1 : Int32) < 0 by decide) c_35
    ·
      refine ca_iload h dL_isBest_38 rfl ?_
      refine ca_bipush h dL_isBest_40 bk_m2 ?_
      refine ca_icmp_ne (tgt := 49) h dL_isBest_42 (by decide) (fun c_42 => ?_) (fun c_42 => ?_)
      · exact absurd rfl c_42
      ·
        refine ca_iconst h dL_isBest_45 ik_1 ?_
        refine ca_goto (tgt := 50) h dL_isBest_46 (by decide) ?_
        refine ca_ireturn h hR rfl dL_isBest_50 ?_
        exact ⟨rfl, rfl, ag_rfl _, rfl, fun _ _ _ _ => rfl, fun _ _ => rfl, rfl, hu, hnx, hZ.1⟩
  · exact absurd rfl c_24
set_option maxHeartbeats 400000 in
theorem c_L_isBestH {l : Launch} {E : ch_E} {S : ch_S} {μ : ch_M} {C B u j t T a b : Nat} (hs : ch_Std E S) (hv22 : S.2.1 16 22 0) (hZ : o_Z C μ) (hJ : s_J B (μ 0)) (hB : B + 108 * T + 200 < 2 ^ 31) (ht : μ 0 0 0 3 = nI t) (htT : t + T ≤ 100000) (hT : T ≤ 30) (ha : a < C) (hb : b < C) (hu : μ 15 14 0 0 = nI u) (hu10 : u ≤ 10) (hj : j < 12) (hnx : μ 15 14 0 1 = nI j) (hex : ¬ μ 0 2 (8 * a + b) 0 = 0) : ch_C E l yL_isBest cL_isBest 13 (some FieldType.boolean) 8 0 0 S μ [.ref (S.1 15 11 0), .ref (S.1 16 22 0), .int (nI a), .int (nI b), .int (nI T)] (fun v' S' μ' => v' = some (.int 1) ∧ S' = S ∧ o_U j u μ μ') := by
  refine ch_enter rfl rfl ?_
  intro X hl0 h hG hR hnm
  have h : ch_H X E RL cL_isBest 13 := h
  have hw := hZ.wf
  have hmc := hZ.mc
  have hcc := hZ.cc
  have hc8 := hw.2.1
  have hcC := hZ.2.1.2.2
  have hr : 8 * a + b < 64 := by omega
  obtain ⟨h0, d0, eh, hh31, ed, hd31⟩ := s_J_t0 hJ (by omega)
  have hA : ∀ v, v < 31 → s_A B (nw (μ 0) 2 (8 * a + b) 1 (nI v)) := fun v hv => (s_J_hys hJ hr (nI_pos (by omega)) (nI_nlt (a := 30) (by omega) (by decide))).1
  have hw1 : ∀ s v, v < 31 → k_c8 s → k_wf (nw (k_cp s (μ 0)) 2 (8 * a + b) 1 (nI v)) := fun s v _ hs => nw2_wf (k_wf_ag (k_cp_ag _ _) (k_cp_c8 hs (c8_wf hw)) hw) _ _ _
  have hcon := c_X11_bestHysteresis (l := x_l X) hs hc8 (by rw [hcC]; exact ha) (by rw [hcC]; exact hb) hT (k_tk9_nI (M := 30) ht htT hT (by decide)) hw1 (hZ.1 1 (by decide)) hex
  obtain ⟨s31, bv, g1, g2, hbv, hbk, hb8⟩ := bh_all (m := μ 1) (q := μ 15) (T := T) (N := 31) hA hw (hZ.1 1 (by decide))
  rw [g1, g2] at hcon
  clear g1 g2
  show ch_W X E 13 S μ 0 0 0 [(0, .ref (S.1 15 11 0)), (1, .ref (S.1 16 22 0)), (2, .int (nI a)), (3, .int (nI b)), (4, .int (nI T))] []
  refine ca_aload_nr h dL_isBest_0 rfl ?_
  refine ca_aload_nr h dL_isBest_1 rfl ?_
  refine oa_s h hG ms_L_248 (c_L_all hs hv22 hw hmc hcc) rfl rfl rfl rfl ⟨Nat.le_refl _, Nat.le_refl _⟩ rfl dL_isBest_2 ?_
  refine ca_istore h dL_isBest_5 rfl ?_
  refine ca_aload_nr h dL_isBest_7 rfl ?_
  refine ca_iload_n h dL_isBest_8 rfl ?_
  refine ca_iload_n h dL_isBest_9 rfl ?_
  refine ca_iload h dL_isBest_10 rfl ?_
  refine oa_v h hG ml_L_261 hcon (ci := 11) rfl rfl rfl (hs.1 _ _ _ ⟨rfl, rfl⟩) rfl rfl rfl rfl ⟨Nat.le_refl _, Nat.le_refl _⟩ rfl dL_isBest_12 ?_
  generalize hμ1 : up (up μ 1 s31.1) 15 s31.2 = μ1
  have a0 : μ1 0 = μ 0 := by rw [← hμ1, up_n (by decide), up_n (by decide)]
  have ak : ∀ k, k ≠ 1 → k ≠ 15 → μ1 k = μ k := fun k x y => by rw [← hμ1, up_n y, up_n x]
  have a16 : ∀ k, 16 ≤ k → μ1 k = μ k := fun k h => ak k (by omega) (by omega)
  have a15 : ∀ kd, kd ≤ 16 → μ1 15 kd = μ 15 kd := fun kd h => by rw [← hμ1, up_s]; exact hbk kd h
  have hUb : o_U j u μ μ1 := ⟨by rw [a0]; exact ag_rfl _, ak 2 (by decide) (by decide), fun i hi _ _ => ak (3 + i) (by omega) (by omega), a16, a15 11 (by decide), by rw [a15 14 (by decide)]; exact hu, by rw [a15 14 (by decide)]; exact hnx, fun k hk => by
    by_cases g : k = 1
    · rw [g, ← hμ1, up_n (by decide), up_s]; exact hb8
    · rw [ak k g (by omega)]; exact hZ.1 k hk⟩
  refine ca_istore h dL_isBest_15 rfl ?_
  refine ca_aload_nr h dL_isBest_17 rfl ?_
  refine ca_aload_nr h dL_isBest_18 rfl ?_
  refine oa_s h hG ms_L_248 (c_L_all hs hv22 (by rw [a0]; exact hw) (by rw [a0]; exact hmc) (by rw [a0, a16 16 (by decide)]; exact hcc)) rfl rfl rfl rfl ⟨Nat.le_refl _, Nat.le_refl _⟩ rfl dL_isBest_19 ?_
  rw [a0]
  refine ca_iload h dL_isBest_22 rfl ?_
  refine ca_icmp_eq (tgt := 29) h dL_isBest_24 (by decide) (fun c_24 => ?_) (fun c_24 => ?_)
  ·
    refine ca_aload_nr h dL_isBest_29 rfl ?_
    refine ca_iload_n h dL_isBest_30 rfl ?_
    refine ca_iload_n h dL_isBest_31 rfl ?_
    refine oa_v h hG ml_L_142 (c_X11_hysteresis hs (by rw [a0]; exact hc8) (by rw [a0, hcC]; exact ha) (by rw [a0, hcC]; exact hb)) (ci := 11) rfl rfl rfl (hs.1 _ _ _ ⟨rfl, rfl⟩) rfl rfl rfl rfl ⟨Nat.le_refl _, Nat.le_refl _⟩ rfl dL_isBest_32 ?_
    rw [a0, if_neg hex]
    refine ca_if_ge (tgt := 51) h dL_isBest_35 (by decide) (fun c_35 => ?_) (fun c_35 => ?_)
    ·
      exact ca_pick [2, 3, 4, 5, 6, 0] rfl (c_best (S0 := S) h hG hR hs hv22 hZ hJ hB ht htT hT ha hb hu hu10 hj hnx ed hd31 eh hh31 hex hbv hUb)
    · exact absurd c_35 (hJ.2.1.2 (8 * a + b) hr)
  · exact absurd rfl c_24
theorem c_L_isBest {l : Launch} {E : ch_E} {S : ch_S} {μ : ch_M} {C B u j t T a b : Nat} (hs : ch_Std E S) (hv22 : S.2.1 16 22 0) (hZ : o_Z C μ) (hJ : s_J B (μ 0)) (hB : B + 108 * T + 200 < 2 ^ 31) (ht : μ 0 0 0 3 = nI t) (htT : t + T ≤ 100000) (hT : T ≤ 30) (ha : a < C) (hb : b < C) (hu : μ 15 14 0 0 = nI u) (hu10 : u ≤ 10) (hj : j < 12) (hnx : μ 15 14 0 1 = nI j) : ch_C E l yL_isBest cL_isBest 13 (some FieldType.boolean) 8 0 0 S μ [.ref (S.1 15 11 0), .ref (S.1 16 22 0), .int (nI a), .int (nI b), .int (nI T)] (fun v' S' μ' => v' = some (.int 1) ∧ S' = S ∧ o_U j u μ μ') := by
  by_cases hex : μ 0 2 (8 * a + b) 0 = 0
  · exact c_L_isBestM hs hv22 hZ hJ hB ht htT hT ha hb hu hu10 hj hnx hex
  · exact c_L_isBestH hs hv22 hZ hJ hB ht htT hT ha hb hu hu10 hj hnx hex
