/-! THE REFERENCE: relations told, pairs of a mobile and a cell, candidates -/
theorem r_th_6 (μ : ch_M) (v : Int32) : r_th μ v 16 22 0 6 = v := by unfold r_th; rw [up_s, nw_at, if_pos ⟨rfl, rfl, rfl⟩]
theorem r_th_kd {μ : ch_M} {v : Int32} {kd : Nat} (h : kd ≠ 22) : r_th μ v 16 kd = μ 16 kd := by unfold r_th; rw [up_s, nw_k h]
set_option maxHeartbeats 100000 in
theorem c_X12_queuedN {l : Launch} {E : ch_E} {S : ch_S} {μ : ch_M} (hs : ch_Std E S) {n : ch_N} (hN : r_N n (μ 16 23 0)) {x y : Int32} (hx : ¬ ((∃ c, c < k_cc n ∧ x = nI c) ∧ ¬ y < 0)) : ch_C E l yX12_queued cX12_queued 3 (some FieldType.int) 4 0 0 S μ [.ref (S.1 16 22 0), .int x, .int y] (ch_F (some (.int (0))) S (r_th μ 1)) := by
  refine ch_enter rfl rfl ?_
  intro X hl0 h hG hR hnm
  have h : ch_H X E RX12 cX12_queued 3 := h
  show ch_W X E 3 S μ 0 0 0 [(0, .ref (S.1 16 22 0)), (1, .int x), (2, .int y)] []
  refine ca_aload_nr h dX12_queued_0 rfl ?_
  refine ca_iconst h dX12_queued_1 ik_0 ?_
  refine pi_X12_70 h (hs.1 _ _ _ ⟨rfl, rfl⟩) dX12_queued_2 ?_
  refine ca_mem (μ'' := r_th μ 0) rfl ?_
  refine ca_aload_nr h dX12_queued_5 rfl ?_
  refine ca_iload_n h dX12_queued_6 rfl ?_
  refine ca_vi h hG ml_X12_104 (c_X12_isCell hs) (ci := 12) rfl rfl rfl (hs.1 _ _ _ ⟨rfl, rfl⟩) rfl rfl rfl rfl ⟨Nat.le_refl _, Nat.le_refl _⟩ rfl dX12_queued_7 ?_
  refine ca_if_eq (tgt := 17) h dX12_queued_10 (by decide) (fun c_10 => ?_) (fun c_10 => ?_)
  ·
    refine ca_aload_nr h dX12_queued_17 rfl ?_
    refine ca_iconst h dX12_queued_18 ik_1 ?_
    refine ca_vi h hG ml_X12_108 (c_X12_raise hs) (ci := 12) rfl rfl rfl (hs.1 _ _ _ ⟨rfl, rfl⟩) rfl rfl rfl rfl ⟨Nat.le_refl _, Nat.le_refl _⟩ rfl dX12_queued_19 ?_
    refine ca_ireturn h hR rfl dX12_queued_22 ?_
    exact ⟨rfl, rfl, by rw [r_th_th]⟩
  ·
    refine ca_iload_n h dX12_queued_13 rfl ?_
    refine ca_if_ge (tgt := 23) h dX12_queued_14 (by decide) (fun c_14 => ?_) (fun c_14 => ?_)
    ·
      exact absurd ⟨(r_isC hN _).mp (by have z := of_decide_eq_true (bI_n0.mp c_10); rw [r_th_0] at z; exact z), c_14⟩ hx
    ·
      refine ca_aload_nr h dX12_queued_17 rfl ?_
      refine ca_iconst h dX12_queued_18 ik_1 ?_
      refine ca_vi h hG ml_X12_108 (c_X12_raise hs) (ci := 12) rfl rfl rfl (hs.1 _ _ _ ⟨rfl, rfl⟩) rfl rfl rfl rfl ⟨Nat.le_refl _, Nat.le_refl _⟩ rfl dX12_queued_19 ?_
      refine ca_ireturn h hR rfl dX12_queued_22 ?_
      exact ⟨rfl, rfl, by rw [r_th_th]⟩
set_option maxHeartbeats 100000 in
theorem c_X12_tellRelation {l : Launch} {E : ch_E} {S : ch_S} {μ : ch_M} (hs : ch_Std E S) {n : ch_N} (hN : r_N n (μ 16 23 0)) {a b : Nat} (ha : a < k_cc n) (hb : b < k_cc n) {f : Nat} (hf : f < 3) {v : Int32} : ch_C E l yX12_tellRelation cX12_tellRelation 6 (some FieldType.int) 3 0 0 S μ [.ref (S.1 16 22 0), .int (nI a), .int (nI b), .int (nI (2 + f)), .int v] (ch_F (some (.int ((if n 2 (8 * a + b) 0 = 0 then v else n 2 (8 * a + b) (1 + f))))) S (r_th μ 0)) := by
  refine ch_enter rfl rfl ?_
  intro X hl0 h hG hR hnm
  have h : ch_H X E RX12 cX12_tellRelation 6 := h
  have ha8 := r_c8 hN ha
  have hb8 := r_c8 hN hb
  show ch_W X E 6 S μ 0 0 0 [(0, .ref (S.1 16 22 0)), (1, .int (nI a)), (2, .int (nI b)), (3, .int (nI (2 + f))), (4, .int v)] []
  refine ca_aload_nr h dX12_tellRelation_0 rfl ?_
  refine ca_iconst h dX12_tellRelation_1 ik_0 ?_
  refine pi_X12_70 h (hs.1 _ _ _ ⟨rfl, rfl⟩) dX12_tellRelation_2 ?_
  refine ca_mem (μ'' := r_th μ 0) rfl ?_
  refine ca_aload_nr h dX12_tellRelation_5 rfl ?_
  refine ca_iload_n h dX12_tellRelation_6 rfl ?_
  refine ca_vi h hG ml_X12_104 (c_X12_isCell hs) (ci := 12) rfl rfl rfl (hs.1 _ _ _ ⟨rfl, rfl⟩) rfl rfl rfl rfl ⟨Nat.le_refl _, Nat.le_refl _⟩ rfl dX12_tellRelation_7 ?_
  refine ca_if_eq (tgt := 21) h dX12_tellRelation_10 (by decide) (fun c_10 => ?_) (fun c_10 => ?_)
  · exact absurd ((r_isC hN _).mpr ⟨a, ha, rfl⟩) (by have z := of_decide_eq_false (bI_0.mp c_10); rw [r_th_0] at z; exact z)
  ·
    refine ca_aload_nr h dX12_tellRelation_13 rfl ?_
    refine ca_iload_n h dX12_tellRelation_14 rfl ?_
    refine ca_vi h hG ml_X12_104 (c_X12_isCell hs) (ci := 12) rfl rfl rfl (hs.1 _ _ _ ⟨rfl, rfl⟩) rfl rfl rfl rfl ⟨Nat.le_refl _, Nat.le_refl _⟩ rfl dX12_tellRelation_15 ?_
    refine ca_if_ne (tgt := 27) h dX12_tellRelation_18 (by decide) (fun c_18 => ?_) (fun c_18 => ?_)
    ·
      refine ca_aload_nr h dX12_tellRelation_27 rfl ?_
      refine ca_aload_nr h dX12_tellRelation_28 rfl ?_
      refine gs_X12_9 h hs ⟨rfl, rfl⟩ dX12_tellRelation_29 ?_
      refine ca_iload_n h dX12_tellRelation_32 rfl ?_
      refine ca_iload_n h dX12_tellRelation_33 rfl ?_
      refine ca_vi h hG ml_X12_81 (c_X12_relationOf hs (by rw [r_th_23]; exact r_24 hN)) (ci := 12) rfl rfl rfl (hs.1 _ _ _ ⟨rfl, rfl⟩) rfl rfl rfl rfl ⟨Nat.le_refl _, Nat.le_refl _⟩ rfl dX12_tellRelation_34 ?_
      rw [r_th_23]
      refine ca_istore h dX12_tellRelation_37 rfl ?_
      refine ca_iload h dX12_tellRelation_39 rfl ?_
      refine ca_iconst h dX12_tellRelation_41 ik_m1 ?_
      refine ca_icmp_ne (tgt := 50) h dX12_tellRelation_42 (by decide) (fun c_42 => ?_) (fun c_42 => ?_)
      ·
        rcases r_find hN.2.2.2.1 ha8 hb8 hN.2.2.2.2.2.2.1 with ⟨e1, -⟩ | ⟨r, -, hr24, e1, e2, -, -, -, e5, e6, e7⟩
        · exact absurd e1 c_42
        rw [e1]
        refine ca_aload_nr h dX12_tellRelation_50 rfl ?_
        refine ca_iload h dX12_tellRelation_51 rfl ?_
        refine ca_iload_n h dX12_tellRelation_53 rfl ?_
        refine ca_vi h hG ml_X12_128 (c_X12_ofRelation hs hr24 (by omega)) (ci := 12) rfl rfl rfl (hs.1 _ _ _ ⟨rfl, rfl⟩) rfl rfl rfl rfl ⟨Nat.le_refl _, Nat.le_refl _⟩ rfl dX12_tellRelation_54 ?_
        refine ca_ireturn h hR rfl dX12_tellRelation_57 ?_
        refine ⟨?_, rfl, rfl⟩
        rw [if_neg e2, r_th_23]
        rcases (show f = 0 ∨ f = 1 ∨ f = 2 by omega) with rfl | rfl | rfl
        · exact congrArg _ (congrArg _ e5)
        · exact congrArg _ (congrArg _ e6)
        · exact congrArg _ (congrArg _ e7)
      ·
        refine ca_iload h dX12_tellRelation_45 rfl ?_
        refine ca_goto (tgt := 57) h dX12_tellRelation_47 (by decide) ?_
        refine ca_ireturn h hR rfl dX12_tellRelation_57 ?_
        exact ⟨by rw [if_pos ((r_nb hN ha8 hb8).mp c_42)], rfl, rfl⟩
    · exact absurd ((r_isC hN _).mpr ⟨b, hb, rfl⟩) (by have z := of_decide_eq_false (bI_0.mp c_18); rw [r_th_0] at z; exact z)
set_option maxHeartbeats 100000 in
theorem c_X12_hysteresis {l : Launch} {E : ch_E} {S : ch_S} {μ : ch_M} (hs : ch_Std E S) {n : ch_N} (hN : r_N n (μ 16 23 0)) {a b : Nat} (ha : a < k_cc n) (hb : b < k_cc n) : ch_C E l yX12_hysteresis cX12_hysteresis 3 (some FieldType.int) 4 0 0 S μ [.ref (S.1 16 22 0), .int (nI a), .int (nI b)] (ch_F (some (.int ((if n 2 (8 * a + b) 0 = 0 then (-1) else n 2 (8 * a + b) 1)))) S (r_th μ 0)) := by
  refine ch_enter rfl rfl ?_
  intro X hl0 h hG hR hnm
  have h : ch_H X E RX12 cX12_hysteresis 3 := h
  show ch_W X E 3 S μ 0 0 0 [(0, .ref (S.1 16 22 0)), (1, .int (nI a)), (2, .int (nI b))] []
  refine ca_aload_nr h dX12_hysteresis_0 rfl ?_
  refine ca_iload_n h dX12_hysteresis_1 rfl ?_
  refine ca_iload_n h dX12_hysteresis_2 rfl ?_
  refine ca_iconst h dX12_hysteresis_3 ik_2 ?_
  refine ca_iconst h dX12_hysteresis_4 ik_m1 ?_
  refine ca_vi h hG ml_X12_131 (c_X12_tellRelation hs hN ha hb (f := 0) (by decide)) (ci := 12) rfl rfl rfl (hs.1 _ _ _ ⟨rfl, rfl⟩) rfl rfl rfl rfl ⟨Nat.le_refl _, Nat.le_refl _⟩ rfl dX12_hysteresis_5 ?_
  refine ca_ireturn h hR rfl dX12_hysteresis_8 ?_
  exact ⟨rfl, rfl, rfl⟩
set_option maxHeartbeats 100000 in
theorem c_X12_successes {l : Launch} {E : ch_E} {S : ch_S} {μ : ch_M} (hs : ch_Std E S) {n : ch_N} (hN : r_N n (μ 16 23 0)) {a b : Nat} (ha : a < k_cc n) (hb : b < k_cc n) : ch_C E l yX12_successes cX12_successes 3 (some FieldType.int) 4 0 0 S μ [.ref (S.1 16 22 0), .int (nI a), .int (nI b)] (ch_F (some (.int (n 2 (8 * a + b) 2))) S (r_th μ 0)) := by
  refine ch_enter rfl rfl ?_
  intro X hl0 h hG hR hnm
  have h : ch_H X E RX12 cX12_successes 3 := h
  show ch_W X E 3 S μ 0 0 0 [(0, .ref (S.1 16 22 0)), (1, .int (nI a)), (2, .int (nI b))] []
  refine ca_aload_nr h dX12_successes_0 rfl ?_
  refine ca_iload_n h dX12_successes_1 rfl ?_
  refine ca_iload_n h dX12_successes_2 rfl ?_
  refine ca_iconst h dX12_successes_3 ik_3 ?_
  refine ca_iconst h dX12_successes_4 ik_0 ?_
  refine ca_vi h hG ml_X12_131 (c_X12_tellRelation hs hN ha hb (f := 1) (by decide)) (ci := 12) rfl rfl rfl (hs.1 _ _ _ ⟨rfl, rfl⟩) rfl rfl rfl rfl ⟨Nat.le_refl _, Nat.le_refl _⟩ rfl dX12_successes_5 ?_
  refine ca_ireturn h hR rfl dX12_successes_8 ?_
  refine ⟨?_, rfl, rfl⟩
  split
  · rename_i z
    rw [(hN.2.2.2.1.2.2.2.2 a b (r_c8 hN ha) (r_c8 hN hb) z).1]
  · rfl
set_option maxHeartbeats 100000 in
theorem c_X12_refusals {l : Launch} {E : ch_E} {S : ch_S} {μ : ch_M} (hs : ch_Std E S) {n : ch_N} (hN : r_N n (μ 16 23 0)) {a b : Nat} (ha : a < k_cc n) (hb : b < k_cc n) : ch_C E l yX12_refusals cX12_refusals 3 (some FieldType.int) 4 0 0 S μ [.ref (S.1 16 22 0), .int (nI a), .int (nI b)] (ch_F (some (.int (n 2 (8 * a + b) 3))) S (r_th μ 0)) := by
  refine ch_enter rfl rfl ?_
  intro X hl0 h hG hR hnm
  have h : ch_H X E RX12 cX12_refusals 3 := h
  show ch_W X E 3 S μ 0 0 0 [(0, .ref (S.1 16 22 0)), (1, .int (nI a)), (2, .int (nI b))] []
  refine ca_aload_nr h dX12_refusals_0 rfl ?_
  refine ca_iload_n h dX12_refusals_1 rfl ?_
  refine ca_iload_n h dX12_refusals_2 rfl ?_
  refine ca_iconst h dX12_refusals_3 ik_4 ?_
  refine ca_iconst h dX12_refusals_4 ik_0 ?_
  refine ca_vi h hG ml_X12_131 (c_X12_tellRelation hs hN ha hb (f := 2) (by decide)) (ci := 12) rfl rfl rfl (hs.1 _ _ _ ⟨rfl, rfl⟩) rfl rfl rfl rfl ⟨Nat.le_refl _, Nat.le_refl _⟩ rfl dX12_refusals_5 ?_
  refine ca_ireturn h hR rfl dX12_refusals_8 ?_
  refine ⟨?_, rfl, rfl⟩
  split
  · rename_i z
    rw [(hN.2.2.2.1.2.2.2.2 a b (r_c8 hN ha) (r_c8 hN hb) z).2]
  · rfl
set_option maxHeartbeats 100000 in
theorem c_X12_tellRelationN {l : Launch} {E : ch_E} {S : ch_S} {μ : ch_M} (hs : ch_Std E S) {n : ch_N} (hN : r_N n (μ 16 23 0)) {x y : Int32} (hx : ¬ ((∃ c, c < k_cc n ∧ x = nI c) ∧ ∃ c, c < k_cc n ∧ y = nI c)) {f v : Int32} : ch_C E l yX12_tellRelation cX12_tellRelation 6 (some FieldType.int) 3 0 0 S μ [.ref (S.1 16 22 0), .int x, .int y, .int f, .int v] (ch_F (some (.int (0))) S (r_th μ 1)) := by
  refine ch_enter rfl rfl ?_
  intro X hl0 h hG hR hnm
  have h : ch_H X E RX12 cX12_tellRelation 6 := h
  show ch_W X E 6 S μ 0 0 0 [(0, .ref (S.1 16 22 0)), (1, .int x), (2, .int y), (3, .int f), (4, .int v)] []
  refine ca_aload_nr h dX12_tellRelation_0 rfl ?_
  refine ca_iconst h dX12_tellRelation_1 ik_0 ?_
  refine pi_X12_70 h (hs.1 _ _ _ ⟨rfl, rfl⟩) dX12_tellRelation_2 ?_
  refine ca_mem (μ'' := r_th μ 0) rfl ?_
  refine ca_aload_nr h dX12_tellRelation_5 rfl ?_
  refine ca_iload_n h dX12_tellRelation_6 rfl ?_
  refine ca_vi h hG ml_X12_104 (c_X12_isCell hs) (ci := 12) rfl rfl rfl (hs.1 _ _ _ ⟨rfl, rfl⟩) rfl rfl rfl rfl ⟨Nat.le_refl _, Nat.le_refl _⟩ rfl dX12_tellRelation_7 ?_
  refine ca_if_eq (tgt := 21) h dX12_tellRelation_10 (by decide) (fun c_10 => ?_) (fun c_10 => ?_)
  ·
    refine ca_aload_nr h dX12_tellRelation_21 rfl ?_
    refine ca_iconst h dX12_tellRelation_22 ik_1 ?_
    refine ca_vi h hG ml_X12_108 (c_X12_raise hs) (ci := 12) rfl rfl rfl (hs.1 _ _ _ ⟨rfl, rfl⟩) rfl rfl rfl rfl ⟨Nat.le_refl _, Nat.le_refl _⟩ rfl dX12_tellRelation_23 ?_
    refine ca_ireturn h hR rfl dX12_tellRelation_26 ?_
    exact ⟨rfl, rfl, by rw [r_th_th]⟩
  ·
    refine ca_aload_nr h dX12_tellRelation_13 rfl ?_
    refine ca_iload_n h dX12_tellRelation_14 rfl ?_
    refine ca_vi h hG ml_X12_104 (c_X12_isCell hs) (ci := 12) rfl rfl rfl (hs.1 _ _ _ ⟨rfl, rfl⟩) rfl rfl rfl rfl ⟨Nat.le_refl _, Nat.le_refl _⟩ rfl dX12_tellRelation_15 ?_
    refine ca_if_ne (tgt := 27) h dX12_tellRelation_18 (by decide) (fun c_18 => ?_) (fun c_18 => ?_)
    ·
      exact absurd ⟨(r_isC hN _).mp (by have z := of_decide_eq_true (bI_n0.mp c_10); rw [r_th_0] at z; exact z), (r_isC hN _).mp (by have z := of_decide_eq_true (bI_n0.mp c_18); rw [r_th_0] at z; exact z)⟩ hx
    ·
      refine ca_aload_nr h dX12_tellRelation_21 rfl ?_
      refine ca_iconst h dX12_tellRelation_22 ik_1 ?_
      refine ca_vi h hG ml_X12_108 (c_X12_raise hs) (ci := 12) rfl rfl rfl (hs.1 _ _ _ ⟨rfl, rfl⟩) rfl rfl rfl rfl ⟨Nat.le_refl _, Nat.le_refl _⟩ rfl dX12_tellRelation_23 ?_
      refine ca_ireturn h hR rfl dX12_tellRelation_26 ?_
      exact ⟨rfl, rfl, by rw [r_th_th]⟩
set_option maxHeartbeats 100000 in
theorem c_X12_hysteresisN {l : Launch} {E : ch_E} {S : ch_S} {μ : ch_M} (hs : ch_Std E S) {n : ch_N} (hN : r_N n (μ 16 23 0)) {x y : Int32} (hx : ¬ ((∃ c, c < k_cc n ∧ x = nI c) ∧ ∃ c, c < k_cc n ∧ y = nI c)) : ch_C E l yX12_hysteresis cX12_hysteresis 3 (some FieldType.int) 4 0 0 S μ [.ref (S.1 16 22 0), .int x, .int y] (ch_F (some (.int (0))) S (r_th μ 1)) := by
  refine ch_enter rfl rfl ?_
  intro X hl0 h hG hR hnm
  have h : ch_H X E RX12 cX12_hysteresis 3 := h
  show ch_W X E 3 S μ 0 0 0 [(0, .ref (S.1 16 22 0)), (1, .int x), (2, .int y)] []
  refine ca_aload_nr h dX12_hysteresis_0 rfl ?_
  refine ca_iload_n h dX12_hysteresis_1 rfl ?_
  refine ca_iload_n h dX12_hysteresis_2 rfl ?_
  refine ca_iconst h dX12_hysteresis_3 ik_2 ?_
  refine ca_iconst h dX12_hysteresis_4 ik_m1 ?_
  refine ca_vi h hG ml_X12_131 (c_X12_tellRelationN hs hN hx) (ci := 12) rfl rfl rfl (hs.1 _ _ _ ⟨rfl, rfl⟩) rfl rfl rfl rfl ⟨Nat.le_refl _, Nat.le_refl _⟩ rfl dX12_hysteresis_5 ?_
  refine ca_ireturn h hR rfl dX12_hysteresis_8 ?_
  exact ⟨rfl, rfl, rfl⟩
set_option maxHeartbeats 100000 in
theorem c_X12_successesN {l : Launch} {E : ch_E} {S : ch_S} {μ : ch_M} (hs : ch_Std E S) {n : ch_N} (hN : r_N n (μ 16 23 0)) {x y : Int32} (hx : ¬ ((∃ c, c < k_cc n ∧ x = nI c) ∧ ∃ c, c < k_cc n ∧ y = nI c)) : ch_C E l yX12_successes cX12_successes 3 (some FieldType.int) 4 0 0 S μ [.ref (S.1 16 22 0), .int x, .int y] (ch_F (some (.int (0))) S (r_th μ 1)) := by
  refine ch_enter rfl rfl ?_
  intro X hl0 h hG hR hnm
  have h : ch_H X E RX12 cX12_successes 3 := h
  show ch_W X E 3 S μ 0 0 0 [(0, .ref (S.1 16 22 0)), (1, .int x), (2, .int y)] []
  refine ca_aload_nr h dX12_successes_0 rfl ?_
  refine ca_iload_n h dX12_successes_1 rfl ?_
  refine ca_iload_n h dX12_successes_2 rfl ?_
  refine ca_iconst h dX12_successes_3 ik_3 ?_
  refine ca_iconst h dX12_successes_4 ik_0 ?_
  refine ca_vi h hG ml_X12_131 (c_X12_tellRelationN hs hN hx) (ci := 12) rfl rfl rfl (hs.1 _ _ _ ⟨rfl, rfl⟩) rfl rfl rfl rfl ⟨Nat.le_refl _, Nat.le_refl _⟩ rfl dX12_successes_5 ?_
  refine ca_ireturn h hR rfl dX12_successes_8 ?_
  exact ⟨rfl, rfl, rfl⟩
set_option maxHeartbeats 100000 in
theorem c_X12_refusalsN {l : Launch} {E : ch_E} {S : ch_S} {μ : ch_M} (hs : ch_Std E S) {n : ch_N} (hN : r_N n (μ 16 23 0)) {x y : Int32} (hx : ¬ ((∃ c, c < k_cc n ∧ x = nI c) ∧ ∃ c, c < k_cc n ∧ y = nI c)) : ch_C E l yX12_refusals cX12_refusals 3 (some FieldType.int) 4 0 0 S μ [.ref (S.1 16 22 0), .int x, .int y] (ch_F (some (.int (0))) S (r_th μ 1)) := by
  refine ch_enter rfl rfl ?_
  intro X hl0 h hG hR hnm
  have h : ch_H X E RX12 cX12_refusals 3 := h
  show ch_W X E 3 S μ 0 0 0 [(0, .ref (S.1 16 22 0)), (1, .int x), (2, .int y)] []
  refine ca_aload_nr h dX12_refusals_0 rfl ?_
  refine ca_iload_n h dX12_refusals_1 rfl ?_
  refine ca_iload_n h dX12_refusals_2 rfl ?_
  refine ca_iconst h dX12_refusals_3 ik_4 ?_
  refine ca_iconst h dX12_refusals_4 ik_0 ?_
  refine ca_vi h hG ml_X12_131 (c_X12_tellRelationN hs hN hx) (ci := 12) rfl rfl rfl (hs.1 _ _ _ ⟨rfl, rfl⟩) rfl rfl rfl rfl ⟨Nat.le_refl _, Nat.le_refl _⟩ rfl dX12_refusals_5 ?_
  refine ca_ireturn h hR rfl dX12_refusals_8 ?_
  exact ⟨rfl, rfl, rfl⟩
set_option maxHeartbeats 100000 in
theorem c_X12_arePair {l : Launch} {E : ch_E} {S : ch_S} {μ : ch_M} (hs : ch_Std E S) {n : ch_N} (hN : r_N n (μ 16 23 0)) {m c : Nat} (hm : m < k_mc n) (hc : c < k_cc n) : ch_C E l yX12_arePair cX12_arePair 3 (some FieldType.boolean) 3 0 0 S μ [.ref (S.1 16 22 0), .int (nI m), .int (nI c)] (ch_F (some (.int (1))) S (r_th μ 0)) := by
  refine ch_enter rfl rfl ?_
  intro X hl0 h hG hR hnm
  have h : ch_H X E RX12 cX12_arePair 3 := h
  show ch_W X E 3 S μ 0 0 0 [(0, .ref (S.1 16 22 0)), (1, .int (nI m)), (2, .int (nI c))] []
  refine ca_aload_nr h dX12_arePair_0 rfl ?_
  refine ca_aload_nr h dX12_arePair_1 rfl ?_
  refine ca_iload_n h dX12_arePair_2 rfl ?_
  refine ca_vi h hG ml_X12_170 (c_X12_isMobile hs) (ci := 12) rfl rfl rfl (hs.1 _ _ _ ⟨rfl, rfl⟩) rfl rfl rfl rfl ⟨Nat.le_refl _, Nat.le_refl _⟩ rfl dX12_arePair_3 ?_
  refine ca_if_eq (tgt := 21) h dX12_arePair_6 (by decide) (fun c_6 => ?_) (fun c_6 => ?_)
  · exact absurd ((r_isM hN _).mpr ⟨m, hm, rfl⟩) (of_decide_eq_false (bI_0.mp c_6))
  ·
    refine ca_aload_nr h dX12_arePair_9 rfl ?_
    refine ca_iload_n h dX12_arePair_10 rfl ?_
    refine ca_vi h hG ml_X12_104 (c_X12_isCell hs) (ci := 12) rfl rfl rfl (hs.1 _ _ _ ⟨rfl, rfl⟩) rfl rfl rfl rfl ⟨Nat.le_refl _, Nat.le_refl _⟩ rfl dX12_arePair_11 ?_
    refine ca_if_eq (tgt := 21) h dX12_arePair_14 (by decide) (fun c_14 => ?_) (fun c_14 => ?_)
    · exact absurd ((r_isC hN _).mpr ⟨c, hc, rfl⟩) (of_decide_eq_false (bI_0.mp c_14))
    ·
      refine ca_iconst h dX12_arePair_17 ik_0 ?_
      refine ca_goto (tgt := 22) h dX12_arePair_18 (by decide) ?_
      refine pi_X12_70 h (hs.1 _ _ _ ⟨rfl, rfl⟩) dX12_arePair_22 ?_
      refine ca_mem (μ'' := r_th μ 0) rfl ?_
      refine ca_aload_nr h dX12_arePair_25 rfl ?_
      refine gi_X12_70 h (hs.1 _ _ _ ⟨rfl, rfl⟩) dX12_arePair_26 ?_
      rw [r_th_6]
      refine ca_if_ne (tgt := 36) h dX12_arePair_29 (by decide) (fun c_29 => ?_) (fun c_29 => ?_)
      · exact absurd rfl c_29
      ·
        refine ca_iconst h dX12_arePair_32 ik_1 ?_
        refine ca_goto (tgt := 37) h dX12_arePair_33 (by decide) ?_
        refine ca_ireturn h hR rfl dX12_arePair_37 ?_
        exact ⟨rfl, rfl, rfl⟩
set_option maxHeartbeats 100000 in
theorem c_X12_arePairN {l : Launch} {E : ch_E} {S : ch_S} {μ : ch_M} (hs : ch_Std E S) {n : ch_N} (hN : r_N n (μ 16 23 0)) {x y : Int32} (hx : ¬ ((∃ m, m < k_mc n ∧ x = nI m) ∧ ∃ c, c < k_cc n ∧ y = nI c)) : ch_C E l yX12_arePair cX12_arePair 3 (some FieldType.boolean) 3 0 0 S μ [.ref (S.1 16 22 0), .int x, .int y] (ch_F (some (.int (0))) S (r_th μ 1)) := by
  refine ch_enter rfl rfl ?_
  intro X hl0 h hG hR hnm
  have h : ch_H X E RX12 cX12_arePair 3 := h
  show ch_W X E 3 S μ 0 0 0 [(0, .ref (S.1 16 22 0)), (1, .int x), (2, .int y)] []
  refine ca_aload_nr h dX12_arePair_0 rfl ?_
  refine ca_aload_nr h dX12_arePair_1 rfl ?_
  refine ca_iload_n h dX12_arePair_2 rfl ?_
  refine ca_vi h hG ml_X12_170 (c_X12_isMobile hs) (ci := 12) rfl rfl rfl (hs.1 _ _ _ ⟨rfl, rfl⟩) rfl rfl rfl rfl ⟨Nat.le_refl _, Nat.le_refl _⟩ rfl dX12_arePair_3 ?_
  refine ca_if_eq (tgt := 21) h dX12_arePair_6 (by decide) (fun c_6 => ?_) (fun c_6 => ?_)
  ·
    refine ca_iconst h dX12_arePair_21 ik_1 ?_
    refine pi_X12_70 h (hs.1 _ _ _ ⟨rfl, rfl⟩) dX12_arePair_22 ?_
    refine ca_mem (μ'' := r_th μ 1) rfl ?_
    refine ca_aload_nr h dX12_arePair_25 rfl ?_
    refine gi_X12_70 h (hs.1 _ _ _ ⟨rfl, rfl⟩) dX12_arePair_26 ?_
    rw [r_th_6]
    refine ca_if_ne (tgt := 36) h dX12_arePair_29 (by decide) (fun c_29 => ?_) (fun c_29 => ?_)
    ·
      refine ca_iconst h dX12_arePair_36 ik_0 ?_
      refine ca_ireturn h hR rfl dX12_arePair_37 ?_
      exact ⟨rfl, rfl, rfl⟩
    · exact absurd c_29 (by decide)
  ·
    refine ca_aload_nr h dX12_arePair_9 rfl ?_
    refine ca_iload_n h dX12_arePair_10 rfl ?_
    refine ca_vi h hG ml_X12_104 (c_X12_isCell hs) (ci := 12) rfl rfl rfl (hs.1 _ _ _ ⟨rfl, rfl⟩) rfl rfl rfl rfl ⟨Nat.le_refl _, Nat.le_refl _⟩ rfl dX12_arePair_11 ?_
    refine ca_if_eq (tgt := 21) h dX12_arePair_14 (by decide) (fun c_14 => ?_) (fun c_14 => ?_)
    ·
      refine ca_iconst h dX12_arePair_21 ik_1 ?_
      refine pi_X12_70 h (hs.1 _ _ _ ⟨rfl, rfl⟩) dX12_arePair_22 ?_
      refine ca_mem (μ'' := r_th μ 1) rfl ?_
      refine ca_aload_nr h dX12_arePair_25 rfl ?_
      refine gi_X12_70 h (hs.1 _ _ _ ⟨rfl, rfl⟩) dX12_arePair_26 ?_
      rw [r_th_6]
      refine ca_if_ne (tgt := 36) h dX12_arePair_29 (by decide) (fun c_29 => ?_) (fun c_29 => ?_)
      ·
        refine ca_iconst h dX12_arePair_36 ik_0 ?_
        refine ca_ireturn h hR rfl dX12_arePair_37 ?_
        exact ⟨rfl, rfl, rfl⟩
      · exact absurd c_29 (by decide)
    ·
      exact absurd ⟨(r_isM hN _).mp (of_decide_eq_true (bI_n0.mp c_6)), (r_isC hN _).mp (of_decide_eq_true (bI_n0.mp c_14))⟩ hx
set_option maxHeartbeats 100000 in
theorem c_X12_average {l : Launch} {E : ch_E} {S : ch_S} {μ : ch_M} (hs : ch_Std E S) {n : ch_N} (hN : r_N n (μ 16 23 0)) {m c : Nat} (hm : m < k_mc n) (hc : c < k_cc n) : ch_C E l yX12_average cX12_average 3 (some FieldType.int) 4 0 0 S μ [.ref (S.1 16 22 0), .int (nI m), .int (nI c)] (ch_F (some (.int (k_avg n m (nI c)))) S (r_th μ 0)) := by
  refine ch_enter rfl rfl ?_
  intro X hl0 h hG hR hnm
  have h : ch_H X E RX12 cX12_average 3 := h
  have hm12 := r_m12 hN hm
  have hc8 := r_c8 hN hc
  show ch_W X E 3 S μ 0 0 0 [(0, .ref (S.1 16 22 0)), (1, .int (nI m)), (2, .int (nI c))] []
  refine ca_aload_nr h dX12_average_0 rfl ?_
  refine ca_iload_n h dX12_average_1 rfl ?_
  refine ca_iload_n h dX12_average_2 rfl ?_
  refine ca_vi h hG ml_X12_263 (c_X12_arePair hs hN hm hc) (ci := 12) rfl rfl rfl (hs.1 _ _ _ ⟨rfl, rfl⟩) rfl rfl rfl rfl ⟨Nat.le_refl _, Nat.le_refl _⟩ rfl dX12_average_3 ?_
  refine ca_if_ne (tgt := 11) h dX12_average_6 (by decide) (fun c_6 => ?_) (fun c_6 => ?_)
  ·
    refine ca_aload_nr h dX12_average_11 rfl ?_
    refine ca_iload_n h dX12_average_12 rfl ?_
    refine ca_vi h hG ml_X12_135 (c_X12_talks hs hm12) (ci := 12) rfl rfl rfl (hs.1 _ _ _ ⟨rfl, rfl⟩) rfl rfl rfl rfl ⟨Nat.le_refl _, Nat.le_refl _⟩ rfl dX12_average_13 ?_
    refine ca_if_eq (tgt := 37) h dX12_average_16 (by decide) (fun c_16 => ?_) (fun c_16 => ?_)
    ·
      refine ca_iconst h dX12_average_37 ik_m1 ?_
      refine ca_ireturn h hR rfl dX12_average_38 ?_
      have h9 := ((hN.2.2.2.2.1 m hm).2.2.2.2.2.2.1 ((by have z := of_decide_eq_false (bI_0.mp c_16); rw [r_th_0, r_f hN hm (f := 4) (by decide)] at z; exact z))).2 c hc8
      exact ⟨by unfold k_avg; rw [k_rep_c hc8, h9.1, if_neg (by decide)], rfl, rfl⟩
    ·
      refine ca_aload_nr h dX12_average_19 rfl ?_
      refine ca_iload_n h dX12_average_20 rfl ?_
      refine ca_iload_n h dX12_average_21 rfl ?_
      refine ca_vi h hG ml_X12_154 (c_X12_reportsOf hs hm12 hc8) (ci := 12) rfl rfl rfl (hs.1 _ _ _ ⟨rfl, rfl⟩) rfl rfl rfl rfl ⟨Nat.le_refl _, Nat.le_refl _⟩ rfl dX12_average_22 ?_
      refine ca_if_le (tgt := 37) h dX12_average_25 (by decide) (fun c_25 => ?_) (fun c_25 => ?_)
      ·
        refine ca_iconst h dX12_average_37 ik_m1 ?_
        refine ca_ireturn h hR rfl dX12_average_38 ?_
        have c9 := c_25
        rw [r_th_0, r_ct hN hm (by have z := of_decide_eq_true (bI_n0.mp c_16); rw [r_th_0, r_f hN hm (f := 4) (by decide)] at z; exact z) hc8] at c9
        exact ⟨by unfold k_avg; rw [k_rep_c hc8, if_neg c9], rfl, rfl⟩
      ·
        refine ca_aload_nr h dX12_average_28 rfl ?_
        refine ca_iload_n h dX12_average_29 rfl ?_
        refine ca_iload_n h dX12_average_30 rfl ?_
        refine ca_vi h hG ml_X12_204 (c_X12_averageOf hs (n := n) (by rw [r_th_23]; exact hN) hm (by have z := of_decide_eq_true (bI_n0.mp c_16); rw [r_th_0, r_f hN hm (f := 4) (by decide)] at z; exact z) hc8 (by have c9 := c_25; rw [r_th_0, r_ct hN hm (by have z := of_decide_eq_true (bI_n0.mp c_16); rw [r_th_0, r_f hN hm (f := 4) (by decide)] at z; exact z) hc8] at c9; exact c9)) (ci := 12) rfl rfl rfl (hs.1 _ _ _ ⟨rfl, rfl⟩) rfl rfl rfl rfl ⟨Nat.le_refl _, Nat.le_refl _⟩ rfl dX12_average_31 ?_
        refine ca_goto (tgt := 38) h dX12_average_34 (by decide) ?_
        refine ca_ireturn h hR rfl dX12_average_38 ?_
        exact ⟨rfl, rfl, rfl⟩
  · exact absurd (show (1 : Int32) = 0 from c_6) (by decide)
set_option maxHeartbeats 100000 in
theorem c_X12_averageN {l : Launch} {E : ch_E} {S : ch_S} {μ : ch_M} (hs : ch_Std E S) {n : ch_N} (hN : r_N n (μ 16 23 0)) {x y : Int32} (hx : ¬ ((∃ m, m < k_mc n ∧ x = nI m) ∧ ∃ c, c < k_cc n ∧ y = nI c)) : ch_C E l yX12_average cX12_average 3 (some FieldType.int) 4 0 0 S μ [.ref (S.1 16 22 0), .int x, .int y] (ch_F (some (.int (0))) S (r_th μ 1)) := by
  refine ch_enter rfl rfl ?_
  intro X hl0 h hG hR hnm
  have h : ch_H X E RX12 cX12_average 3 := h
  show ch_W X E 3 S μ 0 0 0 [(0, .ref (S.1 16 22 0)), (1, .int x), (2, .int y)] []
  refine ca_aload_nr h dX12_average_0 rfl ?_
  refine ca_iload_n h dX12_average_1 rfl ?_
  refine ca_iload_n h dX12_average_2 rfl ?_
  refine ca_vi h hG ml_X12_263 (c_X12_arePairN hs hN hx) (ci := 12) rfl rfl rfl (hs.1 _ _ _ ⟨rfl, rfl⟩) rfl rfl rfl rfl ⟨Nat.le_refl _, Nat.le_refl _⟩ rfl dX12_average_3 ?_
  refine ca_if_ne (tgt := 11) h dX12_average_6 (by decide) (fun c_6 => ?_) (fun c_6 => ?_)
  · exact absurd c_6 (by decide)
  ·
    refine ca_iconst h dX12_average_9 ik_0 ?_
    refine ca_ireturn h hR rfl dX12_average_10 ?_
    exact ⟨rfl, rfl, rfl⟩
set_option maxHeartbeats 100000 in
theorem c_X12_reportCount {l : Launch} {E : ch_E} {S : ch_S} {μ : ch_M} (hs : ch_Std E S) {n : ch_N} (hN : r_N n (μ 16 23 0)) {m c : Nat} (hm : m < k_mc n) (hc : c < k_cc n) : ch_C E l yX12_reportCount cX12_reportCount 3 (some FieldType.int) 4 0 0 S μ [.ref (S.1 16 22 0), .int (nI m), .int (nI c)] (ch_F (some (.int (n 5 m c))) S (r_th μ 0)) := by
  refine ch_enter rfl rfl ?_
  intro X hl0 h hG hR hnm
  have h : ch_H X E RX12 cX12_reportCount 3 := h
  have hm12 := r_m12 hN hm
  have hc8 := r_c8 hN hc
  show ch_W X E 3 S μ 0 0 0 [(0, .ref (S.1 16 22 0)), (1, .int (nI m)), (2, .int (nI c))] []
  refine ca_aload_nr h dX12_reportCount_0 rfl ?_
  refine ca_iload_n h dX12_reportCount_1 rfl ?_
  refine ca_iload_n h dX12_reportCount_2 rfl ?_
  refine ca_vi h hG ml_X12_263 (c_X12_arePair hs hN hm hc) (ci := 12) rfl rfl rfl (hs.1 _ _ _ ⟨rfl, rfl⟩) rfl rfl rfl rfl ⟨Nat.le_refl _, Nat.le_refl _⟩ rfl dX12_reportCount_3 ?_
  refine ca_if_eq (tgt := 26) h dX12_reportCount_6 (by decide) (fun c_6 => ?_) (fun c_6 => ?_)
  · exact absurd (show (1 : Int32) = 0 from c_6) (by decide)
  ·
    refine ca_aload_nr h dX12_reportCount_9 rfl ?_
    refine ca_iload_n h dX12_reportCount_10 rfl ?_
    refine ca_vi h hG ml_X12_135 (c_X12_talks hs hm12) (ci := 12) rfl rfl rfl (hs.1 _ _ _ ⟨rfl, rfl⟩) rfl rfl rfl rfl ⟨Nat.le_refl _, Nat.le_refl _⟩ rfl dX12_reportCount_11 ?_
    refine ca_if_eq (tgt := 26) h dX12_reportCount_14 (by decide) (fun c_14 => ?_) (fun c_14 => ?_)
    ·
      refine ca_iconst h dX12_reportCount_26 ik_0 ?_
      refine ca_ireturn h hR rfl dX12_reportCount_27 ?_
      have h9 := ((hN.2.2.2.2.1 m hm).2.2.2.2.2.2.1 ((by have z := of_decide_eq_false (bI_0.mp c_14); rw [r_th_0, r_f hN hm (f := 4) (by decide)] at z; exact z))).2 c hc8
      exact ⟨by rw [h9.1], rfl, rfl⟩
    ·
      refine ca_aload_nr h dX12_reportCount_17 rfl ?_
      refine ca_iload_n h dX12_reportCount_18 rfl ?_
      refine ca_iload_n h dX12_reportCount_19 rfl ?_
      refine ca_vi h hG ml_X12_154 (c_X12_reportsOf hs hm12 hc8) (ci := 12) rfl rfl rfl (hs.1 _ _ _ ⟨rfl, rfl⟩) rfl rfl rfl rfl ⟨Nat.le_refl _, Nat.le_refl _⟩ rfl dX12_reportCount_20 ?_
      refine ca_goto (tgt := 27) h dX12_reportCount_23 (by decide) ?_
      refine ca_ireturn h hR rfl dX12_reportCount_27 ?_
      exact ⟨by rw [r_th_0, r_ct hN hm (by have z := of_decide_eq_true (bI_n0.mp c_14); rw [r_th_0, r_f hN hm (f := 4) (by decide)] at z; exact z) hc8], rfl, rfl⟩
set_option maxHeartbeats 100000 in
theorem c_X12_reportCountN {l : Launch} {E : ch_E} {S : ch_S} {μ : ch_M} (hs : ch_Std E S) {n : ch_N} (hN : r_N n (μ 16 23 0)) {x y : Int32} (hx : ¬ ((∃ m, m < k_mc n ∧ x = nI m) ∧ ∃ c, c < k_cc n ∧ y = nI c)) : ch_C E l yX12_reportCount cX12_reportCount 3 (some FieldType.int) 4 0 0 S μ [.ref (S.1 16 22 0), .int x, .int y] (ch_F (some (.int (0))) S (r_th μ 1)) := by
  refine ch_enter rfl rfl ?_
  intro X hl0 h hG hR hnm
  have h : ch_H X E RX12 cX12_reportCount 3 := h
  show ch_W X E 3 S μ 0 0 0 [(0, .ref (S.1 16 22 0)), (1, .int x), (2, .int y)] []
  refine ca_aload_nr h dX12_reportCount_0 rfl ?_
  refine ca_iload_n h dX12_reportCount_1 rfl ?_
  refine ca_iload_n h dX12_reportCount_2 rfl ?_
  refine ca_vi h hG ml_X12_263 (c_X12_arePairN hs hN hx) (ci := 12) rfl rfl rfl (hs.1 _ _ _ ⟨rfl, rfl⟩) rfl rfl rfl rfl ⟨Nat.le_refl _, Nat.le_refl _⟩ rfl dX12_reportCount_3 ?_
  refine ca_if_eq (tgt := 26) h dX12_reportCount_6 (by decide) (fun c_6 => ?_) (fun c_6 => ?_)
  ·
    refine ca_iconst h dX12_reportCount_26 ik_0 ?_
    refine ca_ireturn h hR rfl dX12_reportCount_27 ?_
    exact ⟨rfl, rfl, rfl⟩
  · exact absurd c_6 (by decide)
set_option maxHeartbeats 100000 in
theorem c_X12_isBarred {l : Launch} {E : ch_E} {S : ch_S} {μ : ch_M} (hs : ch_Std E S) {n : ch_N} (hN : r_N n (μ 16 23 0)) {m c : Nat} (hm : m < k_mc n) (hc : c < k_cc n) : ch_C E l yX12_isBarred cX12_isBarred 3 (some FieldType.boolean) 4 0 0 S μ [.ref (S.1 16 22 0), .int (nI m), .int (nI c)] (ch_F (some (.int (bI (k_isb n m (nI c) (n 0 0 3))))) S (r_th μ 0)) := by
  refine ch_enter rfl rfl ?_
  intro X hl0 h hG hR hnm
  have h : ch_H X E RX12 cX12_isBarred 3 := h
  have hm12 := r_m12 hN hm
  have hc8 := r_c8 hN hc
  show ch_W X E 3 S μ 0 0 0 [(0, .ref (S.1 16 22 0)), (1, .int (nI m)), (2, .int (nI c))] []
  refine ca_aload_nr h dX12_isBarred_0 rfl ?_
  refine ca_iload_n h dX12_isBarred_1 rfl ?_
  refine ca_iload_n h dX12_isBarred_2 rfl ?_
  refine ca_vi h hG ml_X12_263 (c_X12_arePair hs hN hm hc) (ci := 12) rfl rfl rfl (hs.1 _ _ _ ⟨rfl, rfl⟩) rfl rfl rfl rfl ⟨Nat.le_refl _, Nat.le_refl _⟩ rfl dX12_isBarred_3 ?_
  refine ca_if_eq (tgt := 30) h dX12_isBarred_6 (by decide) (fun c_6 => ?_) (fun c_6 => ?_)
  · exact absurd (show (1 : Int32) = 0 from c_6) (by decide)
  ·
    refine ca_aload_nr h dX12_isBarred_9 rfl ?_
    refine ca_iload_n h dX12_isBarred_10 rfl ?_
    refine ca_vi h hG ml_X12_135 (c_X12_talks hs hm12) (ci := 12) rfl rfl rfl (hs.1 _ _ _ ⟨rfl, rfl⟩) rfl rfl rfl rfl ⟨Nat.le_refl _, Nat.le_refl _⟩ rfl dX12_isBarred_11 ?_
    refine ca_if_eq (tgt := 30) h dX12_isBarred_14 (by decide) (fun c_14 => ?_) (fun c_14 => ?_)
    ·
      refine ca_iconst h dX12_isBarred_30 ik_0 ?_
      refine ca_ireturn h hR rfl dX12_isBarred_31 ?_
      have h9 := ((hN.2.2.2.2.1 m hm).2.2.2.2.2.2.1 ((by have z := of_decide_eq_false (bI_0.mp c_14); rw [r_th_0, r_f hN hm (f := 4) (by decide)] at z; exact z))).2 c hc8
      exact ⟨by rw [k_isb_c hc8, h9.2, decide_eq_true (Int32.lt_of_lt_of_le (by decide) (Int32.not_lt.mp hN.2.1.2.1.1))]; rfl, rfl, rfl⟩
    ·
      refine ca_aload_nr h dX12_isBarred_17 rfl ?_
      refine ca_iload_n h dX12_isBarred_18 rfl ?_
      refine ca_iload_n h dX12_isBarred_19 rfl ?_
      refine ca_vi h hG ml_X12_198 (c_X12_isBarredNow hs (n := n) (by rw [r_th_23]; exact hN) hm (by have z := of_decide_eq_true (bI_n0.mp c_14); rw [r_th_0, r_f hN hm (f := 4) (by decide)] at z; exact z) hc8) (ci := 12) rfl rfl rfl (hs.1 _ _ _ ⟨rfl, rfl⟩) rfl rfl rfl rfl ⟨Nat.le_refl _, Nat.le_refl _⟩ rfl dX12_isBarred_20 ?_
      refine ca_if_eq (tgt := 30) h dX12_isBarred_23 (by decide) (fun c_23 => ?_) (fun c_23 => ?_)
      ·
        refine ca_iconst h dX12_isBarred_30 ik_0 ?_
        refine ca_ireturn h hR rfl dX12_isBarred_31 ?_
        exact ⟨by rw [bI_0.mp c_23]; rfl, rfl, rfl⟩
      ·
        refine ca_iconst h dX12_isBarred_26 ik_1 ?_
        refine ca_goto (tgt := 31) h dX12_isBarred_27 (by decide) ?_
        refine ca_ireturn h hR rfl dX12_isBarred_31 ?_
        exact ⟨by rw [bI_n0.mp c_23]; rfl, rfl, rfl⟩
set_option maxHeartbeats 100000 in
theorem c_X12_isBarredN {l : Launch} {E : ch_E} {S : ch_S} {μ : ch_M} (hs : ch_Std E S) {n : ch_N} (hN : r_N n (μ 16 23 0)) {x y : Int32} (hx : ¬ ((∃ m, m < k_mc n ∧ x = nI m) ∧ ∃ c, c < k_cc n ∧ y = nI c)) : ch_C E l yX12_isBarred cX12_isBarred 3 (some FieldType.boolean) 4 0 0 S μ [.ref (S.1 16 22 0), .int x, .int y] (ch_F (some (.int (0))) S (r_th μ 1)) := by
  refine ch_enter rfl rfl ?_
  intro X hl0 h hG hR hnm
  have h : ch_H X E RX12 cX12_isBarred 3 := h
  show ch_W X E 3 S μ 0 0 0 [(0, .ref (S.1 16 22 0)), (1, .int x), (2, .int y)] []
  refine ca_aload_nr h dX12_isBarred_0 rfl ?_
  refine ca_iload_n h dX12_isBarred_1 rfl ?_
  refine ca_iload_n h dX12_isBarred_2 rfl ?_
  refine ca_vi h hG ml_X12_263 (c_X12_arePairN hs hN hx) (ci := 12) rfl rfl rfl (hs.1 _ _ _ ⟨rfl, rfl⟩) rfl rfl rfl rfl ⟨Nat.le_refl _, Nat.le_refl _⟩ rfl dX12_isBarred_3 ?_
  refine ca_if_eq (tgt := 30) h dX12_isBarred_6 (by decide) (fun c_6 => ?_) (fun c_6 => ?_)
  ·
    refine ca_iconst h dX12_isBarred_30 ik_0 ?_
    refine ca_ireturn h hR rfl dX12_isBarred_31 ?_
    exact ⟨rfl, rfl, rfl⟩
  · exact absurd c_6 (by decide)
