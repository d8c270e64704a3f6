set_option maxHeartbeats 400000 in
theorem c_L_isForecast {l : Launch} {E : ch_E} {S : ch_S} {μ : ch_M} {C B u j t m T : Nat} (hs : ch_Std E S) (hv22 : S.2.1 16 22 0) (hZ : o_Z C μ) (hJ : s_J B (μ 0)) (hB : B + 108 * T + 200 < 2 ^ 31) (ht : μ 0 0 0 3 = nI t) (htT : t + T ≤ 100000) (hT : T ≤ 60) (hm : m < k_mc (μ 0)) (hu : μ 15 14 0 0 = nI u) (hu11 : u ≤ 11) (hj : j < 12) (hnx : μ 15 14 0 1 = nI j) : ch_C E l yL_isForecast cL_isForecast 8 (some FieldType.boolean) 8 0 0 S μ [.ref (S.1 15 11 0), .ref (S.1 16 22 0), .int (nI m), .int (nI T)] (fun v' S' μ' => v' = some (.int 1) ∧ S' = S ∧ o_U j u μ μ') := by
  refine ch_enter rfl rfl ?_
  intro X hl0 h hG hR hnm
  have h : ch_H X E RL cL_isForecast 8 := h
  have hw := hZ.wf
  have hmc := hZ.mc
  have hcc := hZ.cc
  have hm12 := hw.1
  have hc1 : k_wf (k_cp (μ 1) (μ 0)) := k_wf_ag (k_cp_ag _ _) (k_cp_c8 (hZ.1 1 (by decide)) (hZ.1 0 (by decide))) hw
  obtain ⟨hA1, hag⟩ := ag_adv T B (μ 0, k_rec (μ 15)) (k_cp (μ 1) (μ 0), μ 15) hJ.1 (ag_sym (k_cp_ag _ _))
  have hwa : k_wf (k_adv T (μ 0, k_rec (μ 15))).1 := k_adv_wf T (μ 0, k_rec (μ 15)) hw
  have hwb : k_wf (k_adv T (k_cp (μ 1) (μ 0), μ 15)).1 := k_adv_wf T (k_cp (μ 1) (μ 0), μ 15) hc1
  have hq1 : ∀ kd, kd ≤ 16 → (k_adv T (k_cp (μ 1) (μ 0), μ 15)).2 kd = μ 15 kd := fun kd h => k_adv_k h T (k_cp (μ 1) (μ 0), μ 15)
  have hmcN : k_mc (k_adv T (μ 0, k_rec (μ 15))).1 = k_mc (μ 0) := by unfold k_mc; rw [adv_00 2 (by decide)]
  show ch_W X E 8 S μ 0 0 0 [(0, .ref (S.1 15 11 0)), (1, .ref (S.1 16 22 0)), (2, .int (nI m)), (3, .int (nI T))] []
  refine ca_aload_nr h dL_isForecast_0 rfl ?_
  refine ca_aload_nr h dL_isForecast_1 rfl ?_
  refine oa_s h hG ms_L_248 (c_L_all hs hv22 hw hmc hcc) rfl rfl rfl rfl ⟨Nat.le_refl _, Nat.le_refl _⟩ rfl dL_isForecast_2 ?_
  refine ca_istore h dL_isForecast_5 rfl ?_
  refine ca_aload_nr h dL_isForecast_7 rfl ?_
  refine oa_v h hG ml_L_252 (c_X11_undoCount hs) (ci := 11) rfl rfl rfl (hs.1 _ _ _ ⟨rfl, rfl⟩) rfl rfl rfl rfl ⟨Nat.le_refl _, Nat.le_refl _⟩ rfl dL_isForecast_8 ?_
  refine ca_istore h dL_isForecast_11 rfl ?_
  refine ca_aload_nr h dL_isForecast_13 rfl ?_
  refine ca_iload_n h dL_isForecast_14 rfl ?_
  refine ca_iload_n h dL_isForecast_15 rfl ?_
  refine oa_v h hG ml_L_255 (c_X11_forecastCell hs hw hc1 hm hT (k_tk9_nI (M := 60) ht htT hT (by decide))) (ci := 11) rfl rfl rfl (hs.1 _ _ _ ⟨rfl, rfl⟩) rfl rfl rfl rfl ⟨Nat.le_refl _, Nat.le_refl _⟩ rfl dL_isForecast_16 ?_
  generalize hcv : (k_adv T (k_cp (μ 1) (μ 0), μ 15)).1 3 m 5 = cv
  generalize hμ1 : up (up μ 1 (k_adv T (k_cp (μ 1) (μ 0), μ 15)).1) 15 (k_adv T (k_cp (μ 1) (μ 0), μ 15)).2 = μ1
  have a0 : μ1 0 = μ 0 := by rw [← hμ1, up_n (by decide), up_n (by decide)]
  have ak : ∀ k, k ≠ 1 → k ≠ 15 → μ1 k = μ k := fun k x y => by rw [← hμ1, up_n y, up_n x]
  have a16 : ∀ k, 16 ≤ k → μ1 k = μ k := fun k h => ak k (by omega) (by omega)
  have a15 : ∀ kd, kd ≤ 16 → μ1 15 kd = μ 15 kd := fun kd h => by rw [← hμ1, up_s]; exact hq1 kd h
  have a14j : μ1 15 14 0 1 = nI j := by rw [a15 14 (by decide)]; exact hnx
  have a14u : μ1 15 14 0 0 = nI u := by rw [a15 14 (by decide)]; exact hu
  have ac : ∀ k, k < 15 → k_c8 (μ1 k) := fun k h => by
    by_cases g : k = 1
    · rw [g, ← hμ1, up_n (by decide), up_s]; exact c8_wf hwb
    · rw [ak k g (by omega)]; exact hZ.1 k h
  refine ca_istore h dL_isForecast_19 rfl ?_
  refine ca_aload_nr h dL_isForecast_21 rfl ?_
  refine ca_aload_nr h dL_isForecast_22 rfl ?_
  refine oa_s h hG ms_L_248 (c_L_all hs hv22 (by rw [a0]; exact hw) (by rw [a0]; exact hmc) (by rw [a0, a16 16 (by decide)]; exact hcc)) rfl rfl rfl rfl ⟨Nat.le_refl _, Nat.le_refl _⟩ rfl dL_isForecast_23 ?_
  rw [a0]
  refine ca_iload h dL_isForecast_26 rfl ?_
  refine ca_icmp_ne (tgt := 40) h dL_isForecast_28 (by decide) (fun c_28 => ?_) (fun c_28 => ?_)
  · exact absurd rfl c_28
  ·
    refine ca_aload_nr h dL_isForecast_31 rfl ?_
    refine oa_v h hG ml_L_252 (c_X11_undoCount hs) (ci := 11) rfl rfl rfl (hs.1 _ _ _ ⟨rfl, rfl⟩) rfl rfl rfl rfl ⟨Nat.le_refl _, Nat.le_refl _⟩ rfl dL_isForecast_32 ?_
    rw [a15 14 (by decide)]
    refine ca_iload h dL_isForecast_35 rfl ?_
    refine ca_icmp_eq (tgt := 42) h dL_isForecast_37 (by decide) (fun c_37 => ?_) (fun c_37 => ?_)
    ·
      refine ca_aload_nr h dL_isForecast_42 rfl ?_
      refine ca_iload_n h dL_isForecast_43 rfl ?_
      refine oa_v h hG ml_L_245 (c_X11_run hs (by rw [a0]; exact hw) hT (by rw [a0]; exact k_tk9_nI (M := 60) ht htT hT (by decide)) hj a14j) (ci := 11) rfl rfl rfl (hs.1 _ _ _ ⟨rfl, rfl⟩) rfl rfl rfl rfl ⟨Nat.le_refl _, Nat.le_refl _⟩ rfl dL_isForecast_44 ?_
      rw [a0, show k_adv T (μ 0, k_rec (μ1 15)) = k_adv T (μ 0, k_rec (μ1 15)) from rfl]
      obtain ⟨-, hag2⟩ := ag_adv T B (μ 0, k_rec (μ1 15)) (k_cp (μ 1) (μ 0), μ 15) hJ.1 (ag_sym (k_cp_ag _ _))
      have hwc : k_wf (k_adv T (μ 0, k_rec (μ1 15))).1 := k_adv_wf T (μ 0, k_rec (μ1 15)) hw
      have hmcN : k_mc (k_adv T (μ 0, k_rec (μ1 15))).1 = k_mc (μ 0) := by unfold k_mc; rw [adv_00 2 (by decide)]
      have hq2 : ∀ kd, kd ≤ 16 → (k_adv T (μ 0, k_rec (μ1 15))).2 kd = k_rec (μ1 15) kd := fun kd h => k_adv_k h T (μ 0, k_rec (μ1 15))
      generalize k_adv T (μ 0, k_rec (μ1 15)) = NQ at hag2 hwc hmcN hq2 ⊢
      have hR1 := R1_mk (x := 12) (N := NQ.1) (q := NQ.2) hj a14u hu11 a14j ((hq2 11 (by decide)).trans (rec_k (by decide))) (hq2 14 (by decide))
      generalize up (up (k_rcm μ1 j) 0 NQ.1) 15 NQ.2 = μ2 at hR1 ⊢
      have b0 : μ2 0 = NQ.1 := hR1.1
      have b14u := hR1.2.2.2.2.2.2.2.1
      have b14j := hR1.2.2.2.2.2.2.2.2
      have hcv2 : NQ.1 3 m 5 = cv := by rw [ag_3 hag2 (by omega) (by decide)]; exact hcv
      refine ca_pop h dL_isForecast_47 rfl ?_
      refine ca_aload_nr h dL_isForecast_48 rfl ?_
      refine ca_iload_n h dL_isForecast_49 rfl ?_
      refine oa_v h hG ml_L_175 (c_X11_servingCell hs (by rw [b0, hmcN]; exact hm12) (by rw [b0, hmcN]; exact hm)) (ci := 11) rfl rfl rfl (hs.1 _ _ _ ⟨rfl, rfl⟩) rfl rfl rfl rfl ⟨Nat.le_refl _, Nat.le_refl _⟩ rfl dL_isForecast_50 ?_
      rw [b0, hcv2]
      refine ca_iload h dL_isForecast_53 rfl ?_
      refine ca_icmp_ne (tgt := 62) h dL_isForecast_55 (by decide) (fun c_55 => ?_) (fun c_55 => ?_)
      · exact absurd rfl c_55
      ·
        refine ca_iconst h dL_isForecast_58 ik_1 ?_
        refine ca_goto (tgt := 63) h dL_isForecast_59 (by decide) ?_
        refine ca_istore h dL_isForecast_63 rfl ?_
        refine ca_iload h dL_isForecast_65 rfl ?_
        refine ca_if_eq (tgt := 91) h dL_isForecast_67 (by decide) (fun c_67 => ?_) (fun c_67 => ?_)
        · exact absurd c_67 (by decide)
        ·
          refine ca_aload_nr h dL_isForecast_70 rfl ?_
          refine oa_v h hG ml_L_258 (c_X11_undo hs (v := u) (by omega) b14u (j := (j + 1) % 12) (by omega) b14j) (ci := 11) rfl rfl rfl (hs.1 _ _ _ ⟨rfl, rfl⟩) rfl rfl rfl rfl ⟨Nat.le_refl _, Nat.le_refl _⟩ rfl dL_isForecast_71 ?_
          obtain ⟨c0, -, c2, ci, c16', c11, c14u, c14j, cc⟩ := undo_1 hR1 hj (R1_c8 hR1 ac (c8_wf hwc))
          generalize up (up μ2 0 (k_cp (μ2 0) (μ2 (3 + k_lx ((j + 1) % 12))))) 15 (k_tkb (μ2 15) ((j + 1) % 12)) = μ3 at c0 c2 ci c16' c11 c14u c14j cc ⊢
          rw [a0] at c0
          have c16 : ∀ k, 16 ≤ k → μ3 k = μ k := fun k h => (c16' k h).trans (a16 k h)
          have hgd := gd_ag c0 (cc 0 (by decide)) hZ.2.1
          refine ca_if_lt (tgt := 91) h dL_isForecast_74 (by decide) (fun c_74 => ?_) (fun c_74 => ?_)
          · exact absurd c_74 (nI_pos (by omega))
          ·
            refine ca_aload_nr h dL_isForecast_77 rfl ?_
            refine ca_aload_nr h dL_isForecast_78 rfl ?_
            refine oa_s h hG ms_L_248 (c_L_all hs hv22 hgd.1 hgd.2.1 (by rw [hgd.2.2, c16 16 (by decide)]; exact hZ.2.2)) rfl rfl rfl rfl ⟨Nat.le_refl _, Nat.le_refl _⟩ rfl dL_isForecast_79 ?_
            rw [a_all_ag c0 hw]
            refine ca_iload h dL_isForecast_82 rfl ?_
            refine ca_icmp_ne (tgt := 91) h dL_isForecast_84 (by decide) (fun c_84 => ?_) (fun c_84 => ?_)
            · exact absurd rfl c_84
            ·
              refine ca_iconst h dL_isForecast_87 ik_1 ?_
              refine ca_goto (tgt := 92) h dL_isForecast_88 (by decide) ?_
              refine ca_ireturn h hR rfl dL_isForecast_92 ?_
              exact ⟨rfl, rfl, c0, c2.trans (ak 2 (by decide) (by decide)), fun i hi h1 _ => (ci i hi h1 (by omega)).trans (ak (3 + i) (by omega) (by omega)), c16, c11.trans (by rw [a15 11 (by decide)]), c14u, c14j, cc⟩
    · exact absurd rfl c_37
