/-! THE REFERENCE: totals, queues, what a tick may do -/
theorem lt78 {x : Int32} (z : x < 8) (y : 7 < x) : False := by
  have h7 : (7 : Int32).toInt = 7 := by decide
  have h8 : (8 : Int32).toInt = 8 := by decide
  have g1 := Int32.lt_iff_toInt_lt.mp z
  have g2 := Int32.lt_iff_toInt_lt.mp y
  omega
theorem k_tot_out {n : ch_N} {x : Int32} (c9 : ¬ (¬ x < 0 ∧ ¬ 7 < x)) : k_tot n x = -1 := by
  unfold k_tot
  by_cases h1 : x < 0
  · rw [if_pos h1]
  · rw [if_neg h1, if_neg (fun z => c9 ⟨h1, fun y => lt78 z y⟩)]
set_option maxHeartbeats 100000 in
theorem c_X12_total {l : Launch} {E : ch_E} {S : ch_S} {μ : ch_M} (hs : ch_Std E S) {n : ch_N} (hN : r_N n (μ 16 23 0)) {x : Int32} : ch_C E l yX12_total cX12_total 2 (some FieldType.int) 2 0 0 S μ [.ref (S.1 16 22 0), .int x] (ch_F (some (.int (k_tot n x))) S (r_th μ 0)) := by
  refine ch_enter rfl rfl ?_
  intro X hl0 h hG hR hnm
  have h : ch_H X E RX12 cX12_total 2 := h
  show ch_W X E 2 S μ 0 0 0 [(0, .ref (S.1 16 22 0)), (1, .int x)] []
  refine ca_aload_nr h dX12_total_0 rfl ?_
  refine ca_iconst h dX12_total_1 ik_0 ?_
  refine pi_X12_70 h (hs.1 _ _ _ ⟨rfl, rfl⟩) dX12_total_2 ?_
  refine ca_mem (μ'' := r_th μ 0) rfl ?_
  refine ca_iload_n h dX12_total_5 rfl ?_
  refine ca_iconst h dX12_total_6 ik_0 ?_
  refine ca_bipush h dX12_total_7 bk_7 ?_
  refine ca_si h hG ms_X12_73 (c_X12_inRange) rfl rfl rfl rfl ⟨Nat.le_refl _, Nat.le_refl _⟩ rfl dX12_total_9 ?_
  refine ca_if_eq (tgt := 27) h dX12_total_12 (by decide) (fun c_12 => ?_) (fun c_12 => ?_)
  ·
    refine ca_iconst h dX12_total_27 ik_m1 ?_
    refine ca_ireturn h hR rfl dX12_total_28 ?_
    exact ⟨by rw [k_tot_out (of_decide_eq_false (bI_0.mp c_12))], rfl, rfl⟩
  ·
    have c9 := of_decide_eq_true (bI_n0.mp c_12)
    obtain ⟨t, ht, rfl⟩ := vp_in_of (n := 8) (vp_lt c9.1 (Int32.lt_of_le_of_lt (Int32.not_lt.mp c9.2) (show (7 : Int32) < 8 by decide)) rfl (by decide)) (by decide)
    refine ca_aload_nr h dX12_total_15 rfl ?_
    refine gs_X12_9 h hs ⟨rfl, rfl⟩ dX12_total_16 ?_
    refine ca_bipush h dX12_total_19 bk_10 ?_
    refine ca_iload_n h dX12_total_21 rfl ?_
    refine ca_iadd h dX12_total_22 ?_
    refine ca_top (show _ = nI (10 + t) by rw [show (10 : Int32) = nI 10 from rfl, nI_add]) ?_
    refine ca_iald h rfl (hs.1 _ _ _ ⟨rfl, rfl⟩) (vp_in_nI (by omega) (by decide)) dX12_total_23 ?_
    refine ca_goto (tgt := 28) h dX12_total_24 (by decide) ?_
    refine ca_ireturn h hR rfl dX12_total_28 ?_
    exact ⟨by unfold k_tot; rw [if_neg c9.1, if_pos (show nI t < 8 from nI_lt (b := 8) ht (by decide)), r_th_0, nI_clamp (by omega), nI_clamp (by omega), hN.2.1.1 t ht], rfl, rfl⟩
set_option maxHeartbeats 100000 in
theorem c_X12_queued {l : Launch} {E : ch_E} {S : ch_S} {μ : ch_M} (hs : ch_Std E S) {n : ch_N} (hN : r_N n (μ 16 23 0)) {c : Nat} (hc : c < k_cc n) {x : Int32} (h0 : ¬ x < 0) : ch_C E l yX12_queued cX12_queued 3 (some FieldType.int) 4 0 0 S μ [.ref (S.1 16 22 0), .int (nI c), .int x] (ch_F (some (.int (k_qm n (nI c) x))) S (r_th μ 0)) := by
  refine ch_enter rfl rfl ?_
  intro X hl0 h hG hR hnm
  have h : ch_H X E RX12 cX12_queued 3 := h
  have hc8 := r_c8 hN hc
  show ch_W X E 3 S μ 0 0 0 [(0, .ref (S.1 16 22 0)), (1, .int (nI c)), (2, .int x)] []
  refine ca_aload_nr h dX12_queued_0 rfl ?_
  refine ca_iconst h dX12_queued_1 ik_0 ?_
  refine pi_X12_70 h (hs.1 _ _ _ ⟨rfl, rfl⟩) dX12_queued_2 ?_
  refine ca_mem (μ'' := r_th μ 0) rfl ?_
  refine ca_aload_nr h dX12_queued_5 rfl ?_
  refine ca_iload_n h dX12_queued_6 rfl ?_
  refine ca_vi h hG ml_X12_104 (c_X12_isCell hs) (ci := 12) rfl rfl rfl (hs.1 _ _ _ ⟨rfl, rfl⟩) rfl rfl rfl rfl ⟨Nat.le_refl _, Nat.le_refl _⟩ rfl dX12_queued_7 ?_
  refine ca_if_eq (tgt := 17) h dX12_queued_10 (by decide) (fun c_10 => ?_) (fun c_10 => ?_)
  · exact absurd c_10 (fun z => of_decide_eq_false (bI_0.mp z) (by rw [r_th_0]; exact (r_isC hN _).mpr ⟨c, hc, rfl⟩))
  ·
    refine ca_iload_n h dX12_queued_13 rfl ?_
    refine ca_if_ge (tgt := 23) h dX12_queued_14 (by decide) (fun c_14 => ?_) (fun c_14 => ?_)
    ·
      refine ca_aload_nr h dX12_queued_23 rfl ?_
      refine ca_iload_n h dX12_queued_24 rfl ?_
      refine ca_iload_n h dX12_queued_25 rfl ?_
      refine ca_vi h hG ml_X12_151 (c_X12_requestAt hs (n := n) (by rw [r_th_23]; exact hN) hc8) (ci := 12) rfl rfl rfl (hs.1 _ _ _ ⟨rfl, rfl⟩) rfl rfl rfl rfl ⟨Nat.le_refl _, Nat.le_refl _⟩ rfl dX12_queued_26 ?_
      refine ca_ireturn h hR rfl dX12_queued_29 ?_
      exact ⟨rfl, rfl, rfl⟩
    · exact absurd c_14 h0
set_option maxHeartbeats 100000 in
theorem c_X12_canRun {l : Launch} {E : ch_E} {S : ch_S} {μ : ch_M} (hs : ch_Std E S) {n : ch_N} (hN : r_N n (μ 16 23 0)) {x y : Int32} : ch_C E l yX12_canRun cX12_canRun 3 (some FieldType.boolean) 2 0 0 S μ [.ref (S.1 16 22 0), .int x, .int y] (ch_F (some (.int (bI (decide ((¬ x < 0 ∧ ¬ y < x) ∧ ¬ 100000 < n 0 0 3 + x))))) S (μ)) := by
  refine ch_enter rfl rfl ?_
  intro X hl0 h hG hR hnm
  have h : ch_H X E RX12 cX12_canRun 3 := h
  show ch_W X E 3 S μ 0 0 0 [(0, .ref (S.1 16 22 0)), (1, .int x), (2, .int y)] []
  refine ca_iload_n h dX12_canRun_0 rfl ?_
  refine ca_iconst h dX12_canRun_1 ik_0 ?_
  refine ca_iload_n h dX12_canRun_2 rfl ?_
  refine ca_si h hG ms_X12_73 (c_X12_inRange) rfl rfl rfl rfl ⟨Nat.le_refl _, Nat.le_refl _⟩ rfl dX12_canRun_3 ?_
  refine ca_if_eq (tgt := 26) h dX12_canRun_6 (by decide) (fun c_6 => ?_) (fun c_6 => ?_)
  ·
    refine ca_iconst h dX12_canRun_26 ik_0 ?_
    refine ca_ireturn h hR rfl dX12_canRun_27 ?_
    exact ⟨by rw [decide_eq_false (fun z => of_decide_eq_false (bI_0.mp c_6) z.1)]; rfl, rfl, rfl⟩
  ·
    refine ca_aload_nr h dX12_canRun_9 rfl ?_
    refine gs_X12_9 h hs ⟨rfl, rfl⟩ dX12_canRun_10 ?_
    refine ca_iconst h dX12_canRun_13 ik_3 ?_
    refine ca_iald h rfl (hs.1 _ _ _ ⟨rfl, rfl⟩) (vp_in_nI (n := 3) (N := 1302) (by decide) (by decide)) dX12_canRun_14 ?_
    refine ca_iload_n h dX12_canRun_15 rfl ?_
    refine ca_iadd h dX12_canRun_16 ?_
    refine ca_ldc h kw_1612 dX12_canRun_17 ?_
    refine ca_icmp_gt (tgt := 26) h dX12_canRun_19 (by decide) (fun c_19 => ?_) (fun c_19 => ?_)
    ·
      refine ca_iconst h dX12_canRun_26 ik_0 ?_
      refine ca_ireturn h hR rfl dX12_canRun_27 ?_
      have c9 := c_19
      rw [cn3, hN.1 3 (by decide)] at c9
      exact ⟨by rw [decide_eq_false (fun z => z.2 c9)]; rfl, rfl, rfl⟩
    ·
      refine ca_iconst h dX12_canRun_22 ik_1 ?_
      refine ca_goto (tgt := 27) h dX12_canRun_23 (by decide) ?_
      refine ca_ireturn h hR rfl dX12_canRun_27 ?_
      have c9 := c_19
      rw [cn3, hN.1 3 (by decide)] at c9
      exact ⟨by rw [decide_eq_true ⟨of_decide_eq_true (bI_n0.mp c_6), c9⟩]; rfl, rfl, rfl⟩
