/-! THE REFERENCE'S SIMPLE CALLS -/
def r_th (μ : ch_M) (v : Int32) : ch_M := up μ 16 (nw (μ 16) 22 0 6 v)
theorem r_th_23 (μ : ch_M) (v : Int32) : r_th μ v 16 23 = μ 16 23 := by unfold r_th; rw [up_s, nw_k (by decide)]
theorem r_th_th (μ : ch_M) (v w : Int32) : r_th (r_th μ v) w = r_th μ w := by unfold r_th; rw [up_s, nw_nw, up_up]
set_option maxHeartbeats 100000 in
theorem c_X12_thrown {l : Launch} {E : ch_E} {S : ch_S} {μ : ch_M} (hs : ch_Std E S) : ch_C E l yX12_thrown cX12_thrown 1 (some FieldType.int) 1 0 0 S μ [.ref (S.1 16 22 0)] (ch_F (some (.int (μ 16 22 0 6))) S (μ)) := by
  refine ch_enter rfl rfl ?_
  intro X hl0 h hG hR hnm
  have h : ch_H X E RX12 cX12_thrown 1 := h
  show ch_W X E 1 S μ 0 0 0 [(0, .ref (S.1 16 22 0))] []
  refine ca_aload_nr h dX12_thrown_0 rfl ?_
  refine gi_X12_70 h (hs.1 _ _ _ ⟨rfl, rfl⟩) dX12_thrown_1 ?_
  refine ca_ireturn h hR rfl dX12_thrown_4 ?_
  exact ⟨rfl, rfl, rfl⟩
set_option maxHeartbeats 100000 in
theorem c_X12_raise {l : Launch} {E : ch_E} {S : ch_S} {μ : ch_M} (hs : ch_Std E S) {v : Int32} : ch_C E l yX12_raise cX12_raise 2 (some FieldType.int) 1 0 0 S μ [.ref (S.1 16 22 0), .int v] (ch_F (some (.int (0))) S (r_th μ v)) := by
  refine ch_enter rfl rfl ?_
  intro X hl0 h hG hR hnm
  have h : ch_H X E RX12 cX12_raise 2 := h
  show ch_W X E 2 S μ 0 0 0 [(0, .ref (S.1 16 22 0)), (1, .int v)] []
  refine ca_aload_nr h dX12_raise_0 rfl ?_
  refine ca_iload_n h dX12_raise_1 rfl ?_
  refine pi_X12_70 h (hs.1 _ _ _ ⟨rfl, rfl⟩) dX12_raise_2 ?_
  refine ca_iconst h dX12_raise_5 ik_0 ?_
  refine ca_ireturn h hR rfl dX12_raise_6 ?_
  exact ⟨rfl, rfl, rfl⟩
set_option maxHeartbeats 100000 in
theorem c_X12_isCoordinate {l : Launch} {E : ch_E} {S : ch_S} {μ : ch_M} {x : Int32} : ch_C E l yX12_isCoordinate cX12_isCoordinate 1 (some FieldType.boolean) 2 0 0 S μ [.int x] (ch_F (some (.int (bI (decide (¬ x < 0 ∧ ¬ 999 < x))))) S (μ)) := by
  refine ch_enter rfl rfl ?_
  intro X hl0 h hG hR hnm
  have h : ch_H X E RX12 cX12_isCoordinate 1 := h
  show ch_W X E 1 S μ 0 0 0 [(0, .int x)] []
  refine ca_iload_n h dX12_isCoordinate_0 rfl ?_
  refine ca_iconst h dX12_isCoordinate_1 ik_0 ?_
  refine ca_sipush h dX12_isCoordinate_2 sk_999 ?_
  refine ca_si h hG ms_X12_73 (c_X12_inRange) rfl rfl rfl rfl ⟨Nat.le_refl _, Nat.le_refl _⟩ rfl dX12_isCoordinate_5 ?_
  refine ca_ireturn h hR (bI_z _) dX12_isCoordinate_8 ?_
  exact ⟨rfl, rfl, rfl⟩
set_option maxHeartbeats 100000 in
theorem c_X12_isSpeed {l : Launch} {E : ch_E} {S : ch_S} {μ : ch_M} {x : Int32} : ch_C E l yX12_isSpeed cX12_isSpeed 1 (some FieldType.boolean) 2 0 0 S μ [.int x] (ch_F (some (.int (bI (decide (¬ x < -99 ∧ ¬ 99 < x))))) S (μ)) := by
  refine ch_enter rfl rfl ?_
  intro X hl0 h hG hR hnm
  have h : ch_H X E RX12 cX12_isSpeed 1 := h
  show ch_W X E 1 S μ 0 0 0 [(0, .int x)] []
  refine ca_iload_n h dX12_isSpeed_0 rfl ?_
  refine ca_bipush h dX12_isSpeed_1 bk_m99 ?_
  refine ca_bipush h dX12_isSpeed_3 bk_99 ?_
  refine ca_si h hG ms_X12_73 (c_X12_inRange) rfl rfl rfl rfl ⟨Nat.le_refl _, Nat.le_refl _⟩ rfl dX12_isSpeed_5 ?_
  refine ca_ireturn h hR (bI_z _) dX12_isSpeed_8 ?_
  exact ⟨rfl, rfl, rfl⟩
set_option maxHeartbeats 100000 in
theorem c_X12_moved {l : Launch} {E : ch_E} {S : ch_S} {μ : ch_M} {a b : Int32} : ch_C E l yX12_moved cX12_moved 2 (some FieldType.int) 1 0 0 S μ [.int a, .int b] (ch_F (some (.int (k_max 0 (k_min 999 (a + b))))) S (μ)) := by
  refine ch_enter rfl rfl ?_
  intro X hl0 h hG hR hnm
  have h : ch_H X E RX12 cX12_moved 2 := h
  show ch_W X E 2 S μ 0 0 0 [(0, .int a), (1, .int b)] []
  refine ca_iconst h dX12_moved_0 ik_0 ?_
  refine ca_sipush h dX12_moved_1 sk_999 ?_
  refine ca_iload_n h dX12_moved_4 rfl ?_
  refine ca_iload_n h dX12_moved_5 rfl ?_
  refine ca_iadd h dX12_moved_6 ?_
  refine ca_mmin h hG rfl rfl rfl kw_1624 kw_486 kw_16 kw_487 (Nat.le_of_ble_eq_true rfl) dX12_moved_7 ?_
  refine ca_mmax h hG rfl rfl rfl kw_1424 kw_775 kw_16 kw_776 (Nat.le_of_ble_eq_true rfl) dX12_moved_10 ?_
  refine ca_ireturn h hR rfl dX12_moved_13 ?_
  exact ⟨rfl, rfl, rfl⟩
set_option maxHeartbeats 100000 in
theorem c_X12_cellCount {l : Launch} {E : ch_E} {S : ch_S} {μ : ch_M} (hs : ch_Std E S) {n : ch_N} (hN : r_N n (μ 16 23 0)) : ch_C E l yX12_cellCount cX12_cellCount 1 (some FieldType.int) 1 0 0 S μ [.ref (S.1 16 22 0)] (ch_F (some (.int (n 0 0 0))) S (r_th μ 0)) := by
  refine ch_enter rfl rfl ?_
  intro X hl0 h hG hR hnm
  have h : ch_H X E RX12 cX12_cellCount 1 := h
  show ch_W X E 1 S μ 0 0 0 [(0, .ref (S.1 16 22 0))] []
  refine ca_aload_nr h dX12_cellCount_0 rfl ?_
  refine ca_iconst h dX12_cellCount_1 ik_0 ?_
  refine pi_X12_70 h (hs.1 _ _ _ ⟨rfl, rfl⟩) dX12_cellCount_2 ?_
  refine ca_aload_nr h dX12_cellCount_5 rfl ?_
  refine gs_X12_9 h hs ⟨rfl, rfl⟩ dX12_cellCount_6 ?_
  refine ca_iconst h dX12_cellCount_9 ik_0 ?_
  refine ca_iald h rfl (hs.1 _ _ _ ⟨rfl, rfl⟩) (vp_in_nI (n := 0) (N := 1302) (by decide) (by decide)) dX12_cellCount_10 ?_
  refine ca_ireturn h hR rfl dX12_cellCount_11 ?_
  exact ⟨by rw [ch_st_nw, up_s, nw_k (show (23 : Nat) ≠ 22 by decide), show Int32.toNatClampNeg 0 = 0 from rfl]; rw [hN.1 0 (by decide)], rfl, rfl⟩
set_option maxHeartbeats 100000 in
theorem c_X12_relationCount {l : Launch} {E : ch_E} {S : ch_S} {μ : ch_M} (hs : ch_Std E S) {n : ch_N} (hN : r_N n (μ 16 23 0)) : ch_C E l yX12_relationCount cX12_relationCount 1 (some FieldType.int) 1 0 0 S μ [.ref (S.1 16 22 0)] (ch_F (some (.int (n 0 0 1))) S (r_th μ 0)) := by
  refine ch_enter rfl rfl ?_
  intro X hl0 h hG hR hnm
  have h : ch_H X E RX12 cX12_relationCount 1 := h
  show ch_W X E 1 S μ 0 0 0 [(0, .ref (S.1 16 22 0))] []
  refine ca_aload_nr h dX12_relationCount_0 rfl ?_
  refine ca_iconst h dX12_relationCount_1 ik_0 ?_
  refine pi_X12_70 h (hs.1 _ _ _ ⟨rfl, rfl⟩) dX12_relationCount_2 ?_
  refine ca_aload_nr h dX12_relationCount_5 rfl ?_
  refine gs_X12_9 h hs ⟨rfl, rfl⟩ dX12_relationCount_6 ?_
  refine ca_iconst h dX12_relationCount_9 ik_1 ?_
  refine ca_iald h rfl (hs.1 _ _ _ ⟨rfl, rfl⟩) (vp_in_nI (n := 1) (N := 1302) (by decide) (by decide)) dX12_relationCount_10 ?_
  refine ca_ireturn h hR rfl dX12_relationCount_11 ?_
  exact ⟨by rw [ch_st_nw, up_s, nw_k (show (23 : Nat) ≠ 22 by decide), show Int32.toNatClampNeg 1 = 1 from rfl]; rw [hN.1 1 (by decide)], rfl, rfl⟩
set_option maxHeartbeats 100000 in
theorem c_X12_mobileCount {l : Launch} {E : ch_E} {S : ch_S} {μ : ch_M} (hs : ch_Std E S) {n : ch_N} (hN : r_N n (μ 16 23 0)) : ch_C E l yX12_mobileCount cX12_mobileCount 1 (some FieldType.int) 1 0 0 S μ [.ref (S.1 16 22 0)] (ch_F (some (.int (n 0 0 2))) S (r_th μ 0)) := by
  refine ch_enter rfl rfl ?_
  intro X hl0 h hG hR hnm
  have h : ch_H X E RX12 cX12_mobileCount 1 := h
  show ch_W X E 1 S μ 0 0 0 [(0, .ref (S.1 16 22 0))] []
  refine ca_aload_nr h dX12_mobileCount_0 rfl ?_
  refine ca_iconst h dX12_mobileCount_1 ik_0 ?_
  refine pi_X12_70 h (hs.1 _ _ _ ⟨rfl, rfl⟩) dX12_mobileCount_2 ?_
  refine ca_aload_nr h dX12_mobileCount_5 rfl ?_
  refine gs_X12_9 h hs ⟨rfl, rfl⟩ dX12_mobileCount_6 ?_
  refine ca_iconst h dX12_mobileCount_9 ik_2 ?_
  refine ca_iald h rfl (hs.1 _ _ _ ⟨rfl, rfl⟩) (vp_in_nI (n := 2) (N := 1302) (by decide) (by decide)) dX12_mobileCount_10 ?_
  refine ca_ireturn h hR rfl dX12_mobileCount_11 ?_
  exact ⟨by rw [ch_st_nw, up_s, nw_k (show (23 : Nat) ≠ 22 by decide), show Int32.toNatClampNeg 2 = 2 from rfl]; rw [hN.1 2 (by decide)], rfl, rfl⟩
set_option maxHeartbeats 100000 in
theorem c_X12_clock {l : Launch} {E : ch_E} {S : ch_S} {μ : ch_M} (hs : ch_Std E S) {n : ch_N} (hN : r_N n (μ 16 23 0)) : ch_C E l yX12_clock cX12_clock 1 (some FieldType.int) 1 0 0 S μ [.ref (S.1 16 22 0)] (ch_F (some (.int (n 0 0 3))) S (r_th μ 0)) := by
  refine ch_enter rfl rfl ?_
  intro X hl0 h hG hR hnm
  have h : ch_H X E RX12 cX12_clock 1 := h
  show ch_W X E 1 S μ 0 0 0 [(0, .ref (S.1 16 22 0))] []
  refine ca_aload_nr h dX12_clock_0 rfl ?_
  refine ca_iconst h dX12_clock_1 ik_0 ?_
  refine pi_X12_70 h (hs.1 _ _ _ ⟨rfl, rfl⟩) dX12_clock_2 ?_
  refine ca_aload_nr h dX12_clock_5 rfl ?_
  refine gs_X12_9 h hs ⟨rfl, rfl⟩ dX12_clock_6 ?_
  refine ca_iconst h dX12_clock_9 ik_3 ?_
  refine ca_iald h rfl (hs.1 _ _ _ ⟨rfl, rfl⟩) (vp_in_nI (n := 3) (N := 1302) (by decide) (by decide)) dX12_clock_10 ?_
  refine ca_ireturn h hR rfl dX12_clock_11 ?_
  exact ⟨by rw [ch_st_nw, up_s, nw_k (show (23 : Nat) ≠ 22 by decide), show Int32.toNatClampNeg 3 = 3 from rfl]; rw [hN.1 3 (by decide)], rfl, rfl⟩
theorem r_lim {x y : Int32} {M : Nat} (hy : ¬ y < 0) (hM : M = Int32.toNatClampNeg y) (hb : M < 2 ^ 31) : (¬ x < 0 ∧ ¬ y - 1 < x) ↔ ∃ m, m < M ∧ x = nI m := by
  have ey : y = nI M := by rw [hM, nI_cn hy]
  subst ey
  constructor
  · rintro ⟨h1, h2⟩
    obtain ⟨j, hj, rfl⟩ := nI_of h1
    refine ⟨j, ?_, rfl⟩
    cases M with
    | zero => exact absurd (show nI 0 - 1 < nI j from Int32.lt_of_lt_of_le (show nI 0 - 1 < 0 by decide) (Int32.not_lt.mp h1)) h2
    | succ M =>
      rw [nI_pred] at h2
      rcases Nat.lt_or_ge M j with g | g
      · exact absurd (nI_lt g hj) h2
      · omega
  · rintro ⟨m, hm, rfl⟩
    refine ⟨nI_pos (by omega), ?_⟩
    cases M with
    | zero => exact absurd hm (Nat.not_lt_zero _)
    | succ M => rw [nI_pred]; exact nI_nlt (by omega) (by omega)
theorem r_isM {n : ch_N} {w : Nat → Int32} (h : r_N n w) (x : Int32) : (¬ x < 0 ∧ ¬ w 2 - 1 < x) ↔ ∃ m, m < k_mc n ∧ x = nI m := by
  have e := h.1 2 (by decide)
  exact r_lim (by rw [e]; exact h.2.1.2.1.2.2.2.2) (r_mc h) (by have := h.2.2.2.2.2.1; omega)
theorem r_isC {n : ch_N} {w : Nat → Int32} (h : r_N n w) (x : Int32) : (¬ x < 0 ∧ ¬ w 0 - 1 < x) ↔ ∃ c, c < k_cc n ∧ x = nI c := by
  have e := h.1 0 (by decide)
  exact r_lim (by rw [e]; exact h.2.1.2.1.2.2.2.1) (r_cc h) (by have := h.2.2.2.2.2.2.1; omega)
theorem r_th_0 (μ : ch_M) (v : Int32) (j : Nat) : r_th μ v 16 23 0 j = μ 16 23 0 j := by rw [r_th_23]
set_option maxHeartbeats 100000 in
theorem c_X12_tell {l : Launch} {E : ch_E} {S : ch_S} {μ : ch_M} (hs : ch_Std E S) {n : ch_N} (hN : r_N n (μ 16 23 0)) {m f : Nat} (hm : m < k_mc n) (hf : f < 91) : ch_C E l yX12_tell cX12_tell 3 (some FieldType.int) 3 0 0 S μ [.ref (S.1 16 22 0), .int (nI m), .int (nI f)] (ch_F (some (.int (μ 16 23 0 (210 + 91 * m + f)))) S (r_th μ 0)) := by
  refine ch_enter rfl rfl ?_
  intro X hl0 h hG hR hnm
  have h : ch_H X E RX12 cX12_tell 3 := h
  have hm12 := r_m12 hN hm
  show ch_W X E 3 S μ 0 0 0 [(0, .ref (S.1 16 22 0)), (1, .int (nI m)), (2, .int (nI f))] []
  refine ca_aload_nr h dX12_tell_0 rfl ?_
  refine ca_iconst h dX12_tell_1 ik_0 ?_
  refine pi_X12_70 h (hs.1 _ _ _ ⟨rfl, rfl⟩) dX12_tell_2 ?_
  refine ca_mem (μ'' := r_th μ 0) rfl ?_
  refine ca_aload_nr h dX12_tell_5 rfl ?_
  refine ca_iload_n h dX12_tell_6 rfl ?_
  refine ca_vi h hG ml_X12_170 (c_X12_isMobile hs) (ci := 12) rfl rfl rfl (hs.1 _ _ _ ⟨rfl, rfl⟩) rfl rfl rfl rfl ⟨Nat.le_refl _, Nat.le_refl _⟩ rfl dX12_tell_7 ?_
  refine ca_if_ne (tgt := 19) h dX12_tell_10 (by decide) (fun c_10 => ?_) (fun c_10 => ?_)
  ·
    refine ca_aload_nr h dX12_tell_19 rfl ?_
    refine ca_iload_n h dX12_tell_20 rfl ?_
    refine ca_iload_n h dX12_tell_21 rfl ?_
    refine ca_vi h hG ml_X12_77 (c_X12_of hs hm12 hf) (ci := 12) rfl rfl rfl (hs.1 _ _ _ ⟨rfl, rfl⟩) rfl rfl rfl rfl ⟨Nat.le_refl _, Nat.le_refl _⟩ rfl dX12_tell_22 ?_
    refine ca_ireturn h hR rfl dX12_tell_25 ?_
    exact ⟨by rw [r_th_0], rfl, rfl⟩
  · exact absurd c_10 (fun z => of_decide_eq_false (bI_0.mp z) (by rw [r_th_0]; exact (r_isM hN _).mpr ⟨m, hm, rfl⟩))
set_option maxHeartbeats 100000 in
theorem c_X12_x {l : Launch} {E : ch_E} {S : ch_S} {μ : ch_M} (hs : ch_Std E S) {n : ch_N} (hN : r_N n (μ 16 23 0)) {m : Nat} (hm : m < k_mc n) : ch_C E l yX12_x cX12_x 2 (some FieldType.int) 4 0 0 S μ [.ref (S.1 16 22 0), .int (nI m)] (ch_F (some (.int (n 3 m 0))) S (r_th μ 0)) := by
  refine ch_enter rfl rfl ?_
  intro X hl0 h hG hR hnm
  have h : ch_H X E RX12 cX12_x 2 := h
  show ch_W X E 2 S μ 0 0 0 [(0, .ref (S.1 16 22 0)), (1, .int (nI m))] []
  refine ca_aload_nr h dX12_x_0 rfl ?_
  refine ca_iload_n h dX12_x_1 rfl ?_
  refine ca_iconst h dX12_x_2 ik_0 ?_
  refine ca_vi h hG ml_X12_192 (c_X12_tell hs hN (f := 0) (by assumption) (by decide)) (ci := 12) rfl rfl rfl (hs.1 _ _ _ ⟨rfl, rfl⟩) rfl rfl rfl rfl ⟨Nat.le_refl _, Nat.le_refl _⟩ rfl dX12_x_3 ?_
  refine ca_ireturn h hR rfl dX12_x_6 ?_
  exact ⟨by rw [r_f hN hm (f := 0) (by decide)], rfl, rfl⟩
set_option maxHeartbeats 100000 in
theorem c_X12_y {l : Launch} {E : ch_E} {S : ch_S} {μ : ch_M} (hs : ch_Std E S) {n : ch_N} (hN : r_N n (μ 16 23 0)) {m : Nat} (hm : m < k_mc n) : ch_C E l yX12_y cX12_y 2 (some FieldType.int) 4 0 0 S μ [.ref (S.1 16 22 0), .int (nI m)] (ch_F (some (.int (n 3 m 1))) S (r_th μ 0)) := by
  refine ch_enter rfl rfl ?_
  intro X hl0 h hG hR hnm
  have h : ch_H X E RX12 cX12_y 2 := h
  show ch_W X E 2 S μ 0 0 0 [(0, .ref (S.1 16 22 0)), (1, .int (nI m))] []
  refine ca_aload_nr h dX12_y_0 rfl ?_
  refine ca_iload_n h dX12_y_1 rfl ?_
  refine ca_iconst h dX12_y_2 ik_1 ?_
  refine ca_vi h hG ml_X12_192 (c_X12_tell hs hN (f := 1) (by assumption) (by decide)) (ci := 12) rfl rfl rfl (hs.1 _ _ _ ⟨rfl, rfl⟩) rfl rfl rfl rfl ⟨Nat.le_refl _, Nat.le_refl _⟩ rfl dX12_y_3 ?_
  refine ca_ireturn h hR rfl dX12_y_6 ?_
  exact ⟨by rw [r_f hN hm (f := 1) (by decide)], rfl, rfl⟩
set_option maxHeartbeats 100000 in
theorem c_X12_state {l : Launch} {E : ch_E} {S : ch_S} {μ : ch_M} (hs : ch_Std E S) {n : ch_N} (hN : r_N n (μ 16 23 0)) {m : Nat} (hm : m < k_mc n) : ch_C E l yX12_state cX12_state 2 (some FieldType.int) 4 0 0 S μ [.ref (S.1 16 22 0), .int (nI m)] (ch_F (some (.int (n 3 m 4))) S (r_th μ 0)) := by
  refine ch_enter rfl rfl ?_
  intro X hl0 h hG hR hnm
  have h : ch_H X E RX12 cX12_state 2 := h
  show ch_W X E 2 S μ 0 0 0 [(0, .ref (S.1 16 22 0)), (1, .int (nI m))] []
  refine ca_aload_nr h dX12_state_0 rfl ?_
  refine ca_iload_n h dX12_state_1 rfl ?_
  refine ca_iconst h dX12_state_2 ik_4 ?_
  refine ca_vi h hG ml_X12_192 (c_X12_tell hs hN (f := 4) (by assumption) (by decide)) (ci := 12) rfl rfl rfl (hs.1 _ _ _ ⟨rfl, rfl⟩) rfl rfl rfl rfl ⟨Nat.le_refl _, Nat.le_refl _⟩ rfl dX12_state_3 ?_
  refine ca_ireturn h hR rfl dX12_state_6 ?_
  exact ⟨by rw [r_f hN hm (f := 4) (by decide)], rfl, rfl⟩
set_option maxHeartbeats 100000 in
theorem c_X12_servingCell {l : Launch} {E : ch_E} {S : ch_S} {μ : ch_M} (hs : ch_Std E S) {n : ch_N} (hN : r_N n (μ 16 23 0)) {m : Nat} (hm : m < k_mc n) : ch_C E l yX12_servingCell cX12_servingCell 2 (some FieldType.int) 4 0 0 S μ [.ref (S.1 16 22 0), .int (nI m)] (ch_F (some (.int (n 3 m 5))) S (r_th μ 0)) := by
  refine ch_enter rfl rfl ?_
  intro X hl0 h hG hR hnm
  have h : ch_H X E RX12 cX12_servingCell 2 := h
  show ch_W X E 2 S μ 0 0 0 [(0, .ref (S.1 16 22 0)), (1, .int (nI m))] []
  refine ca_aload_nr h dX12_servingCell_0 rfl ?_
  refine ca_iload_n h dX12_servingCell_1 rfl ?_
  refine ca_iconst h dX12_servingCell_2 ik_5 ?_
  refine ca_vi h hG ml_X12_192 (c_X12_tell hs hN (f := 5) (by assumption) (by decide)) (ci := 12) rfl rfl rfl (hs.1 _ _ _ ⟨rfl, rfl⟩) rfl rfl rfl rfl ⟨Nat.le_refl _, Nat.le_refl _⟩ rfl dX12_servingCell_3 ?_
  refine ca_ireturn h hR rfl dX12_servingCell_6 ?_
  exact ⟨by rw [r_f hN hm (f := 5) (by decide)], rfl, rfl⟩
set_option maxHeartbeats 100000 in
theorem c_X12_remaining {l : Launch} {E : ch_E} {S : ch_S} {μ : ch_M} (hs : ch_Std E S) {n : ch_N} (hN : r_N n (μ 16 23 0)) {m : Nat} (hm : m < k_mc n) : ch_C E l yX12_remaining cX12_remaining 2 (some FieldType.int) 4 0 0 S μ [.ref (S.1 16 22 0), .int (nI m)] (ch_F (some (.int (n 3 m 6))) S (r_th μ 0)) := by
  refine ch_enter rfl rfl ?_
  intro X hl0 h hG hR hnm
  have h : ch_H X E RX12 cX12_remaining 2 := h
  show ch_W X E 2 S μ 0 0 0 [(0, .ref (S.1 16 22 0)), (1, .int (nI m))] []
  refine ca_aload_nr h dX12_remaining_0 rfl ?_
  refine ca_iload_n h dX12_remaining_1 rfl ?_
  refine ca_bipush h dX12_remaining_2 bk_6 ?_
  refine ca_vi h hG ml_X12_192 (c_X12_tell hs hN (f := 6) (by assumption) (by decide)) (ci := 12) rfl rfl rfl (hs.1 _ _ _ ⟨rfl, rfl⟩) rfl rfl rfl rfl ⟨Nat.le_refl _, Nat.le_refl _⟩ rfl dX12_remaining_4 ?_
  refine ca_ireturn h hR rfl dX12_remaining_7 ?_
  exact ⟨by rw [r_f hN hm (f := 6) (by decide)], rfl, rfl⟩
set_option maxHeartbeats 100000 in
theorem c_X12_requestCell {l : Launch} {E : ch_E} {S : ch_S} {μ : ch_M} (hs : ch_Std E S) {n : ch_N} (hN : r_N n (μ 16 23 0)) {m : Nat} (hm : m < k_mc n) : ch_C E l yX12_requestCell cX12_requestCell 2 (some FieldType.int) 4 0 0 S μ [.ref (S.1 16 22 0), .int (nI m)] (ch_F (some (.int (n 3 m 8))) S (r_th μ 0)) := by
  refine ch_enter rfl rfl ?_
  intro X hl0 h hG hR hnm
  have h : ch_H X E RX12 cX12_requestCell 2 := h
  show ch_W X E 2 S μ 0 0 0 [(0, .ref (S.1 16 22 0)), (1, .int (nI m))] []
  refine ca_aload_nr h dX12_requestCell_0 rfl ?_
  refine ca_iload_n h dX12_requestCell_1 rfl ?_
  refine ca_bipush h dX12_requestCell_2 bk_8 ?_
  refine ca_vi h hG ml_X12_192 (c_X12_tell hs hN (f := 8) (by assumption) (by decide)) (ci := 12) rfl rfl rfl (hs.1 _ _ _ ⟨rfl, rfl⟩) rfl rfl rfl rfl ⟨Nat.le_refl _, Nat.le_refl _⟩ rfl dX12_requestCell_4 ?_
  refine ca_ireturn h hR rfl dX12_requestCell_7 ?_
  exact ⟨by rw [r_8 hN hm], rfl, rfl⟩
set_option maxHeartbeats 100000 in
theorem c_X12_tellN {l : Launch} {E : ch_E} {S : ch_S} {μ : ch_M} (hs : ch_Std E S) {n : ch_N} (hN : r_N n (μ 16 23 0)) {x f : Int32} (hx : ¬ ∃ m, m < k_mc n ∧ x = nI m) : ch_C E l yX12_tell cX12_tell 3 (some FieldType.int) 3 0 0 S μ [.ref (S.1 16 22 0), .int x, .int f] (ch_F (some (.int (0))) S (r_th μ 1)) := by
  refine ch_enter rfl rfl ?_
  intro X hl0 h hG hR hnm
  have h : ch_H X E RX12 cX12_tell 3 := h
  show ch_W X E 3 S μ 0 0 0 [(0, .ref (S.1 16 22 0)), (1, .int x), (2, .int f)] []
  refine ca_aload_nr h dX12_tell_0 rfl ?_
  refine ca_iconst h dX12_tell_1 ik_0 ?_
  refine pi_X12_70 h (hs.1 _ _ _ ⟨rfl, rfl⟩) dX12_tell_2 ?_
  refine ca_mem (μ'' := r_th μ 0) rfl ?_
  refine ca_aload_nr h dX12_tell_5 rfl ?_
  refine ca_iload_n h dX12_tell_6 rfl ?_
  refine ca_vi h hG ml_X12_170 (c_X12_isMobile hs) (ci := 12) rfl rfl rfl (hs.1 _ _ _ ⟨rfl, rfl⟩) rfl rfl rfl rfl ⟨Nat.le_refl _, Nat.le_refl _⟩ rfl dX12_tell_7 ?_
  refine ca_if_ne (tgt := 19) h dX12_tell_10 (by decide) (fun c_10 => ?_) (fun c_10 => ?_)
  · exact absurd c_10 (fun z => z (bI_0.mpr (decide_eq_false (fun y => hx ((r_isM hN _).mp (by rw [r_th_0] at y; exact y))))))
  ·
    refine ca_aload_nr h dX12_tell_13 rfl ?_
    refine ca_iconst h dX12_tell_14 ik_1 ?_
    refine ca_vi h hG ml_X12_108 (c_X12_raise hs) (ci := 12) rfl rfl rfl (hs.1 _ _ _ ⟨rfl, rfl⟩) rfl rfl rfl rfl ⟨Nat.le_refl _, Nat.le_refl _⟩ rfl dX12_tell_15 ?_
    refine ca_ireturn h hR rfl dX12_tell_18 ?_
    exact ⟨rfl, rfl, by rw [r_th_th]⟩
set_option maxHeartbeats 100000 in
theorem c_X12_xN {l : Launch} {E : ch_E} {S : ch_S} {μ : ch_M} (hs : ch_Std E S) {n : ch_N} (hN : r_N n (μ 16 23 0)) {x : Int32} (hx : ¬ ∃ m, m < k_mc n ∧ x = nI m) : ch_C E l yX12_x cX12_x 2 (some FieldType.int) 4 0 0 S μ [.ref (S.1 16 22 0), .int x] (ch_F (some (.int (0))) S (r_th μ 1)) := by
  refine ch_enter rfl rfl ?_
  intro X hl0 h hG hR hnm
  have h : ch_H X E RX12 cX12_x 2 := h
  show ch_W X E 2 S μ 0 0 0 [(0, .ref (S.1 16 22 0)), (1, .int x)] []
  refine ca_aload_nr h dX12_x_0 rfl ?_
  refine ca_iload_n h dX12_x_1 rfl ?_
  refine ca_iconst h dX12_x_2 ik_0 ?_
  refine ca_vi h hG ml_X12_192 (c_X12_tellN hs hN hx) (ci := 12) rfl rfl rfl (hs.1 _ _ _ ⟨rfl, rfl⟩) rfl rfl rfl rfl ⟨Nat.le_refl _, Nat.le_refl _⟩ rfl dX12_x_3 ?_
  refine ca_ireturn h hR rfl dX12_x_6 ?_
  exact ⟨rfl, rfl, rfl⟩
set_option maxHeartbeats 100000 in
theorem c_X12_yN {l : Launch} {E : ch_E} {S : ch_S} {μ : ch_M} (hs : ch_Std E S) {n : ch_N} (hN : r_N n (μ 16 23 0)) {x : Int32} (hx : ¬ ∃ m, m < k_mc n ∧ x = nI m) : ch_C E l yX12_y cX12_y 2 (some FieldType.int) 4 0 0 S μ [.ref (S.1 16 22 0), .int x] (ch_F (some (.int (0))) S (r_th μ 1)) := by
  refine ch_enter rfl rfl ?_
  intro X hl0 h hG hR hnm
  have h : ch_H X E RX12 cX12_y 2 := h
  show ch_W X E 2 S μ 0 0 0 [(0, .ref (S.1 16 22 0)), (1, .int x)] []
  refine ca_aload_nr h dX12_y_0 rfl ?_
  refine ca_iload_n h dX12_y_1 rfl ?_
  refine ca_iconst h dX12_y_2 ik_1 ?_
  refine ca_vi h hG ml_X12_192 (c_X12_tellN hs hN hx) (ci := 12) rfl rfl rfl (hs.1 _ _ _ ⟨rfl, rfl⟩) rfl rfl rfl rfl ⟨Nat.le_refl _, Nat.le_refl _⟩ rfl dX12_y_3 ?_
  refine ca_ireturn h hR rfl dX12_y_6 ?_
  exact ⟨rfl, rfl, rfl⟩
set_option maxHeartbeats 100000 in
theorem c_X12_stateN {l : Launch} {E : ch_E} {S : ch_S} {μ : ch_M} (hs : ch_Std E S) {n : ch_N} (hN : r_N n (μ 16 23 0)) {x : Int32} (hx : ¬ ∃ m, m < k_mc n ∧ x = nI m) : ch_C E l yX12_state cX12_state 2 (some FieldType.int) 4 0 0 S μ [.ref (S.1 16 22 0), .int x] (ch_F (some (.int (0))) S (r_th μ 1)) := by
  refine ch_enter rfl rfl ?_
  intro X hl0 h hG hR hnm
  have h : ch_H X E RX12 cX12_state 2 := h
  show ch_W X E 2 S μ 0 0 0 [(0, .ref (S.1 16 22 0)), (1, .int x)] []
  refine ca_aload_nr h dX12_state_0 rfl ?_
  refine ca_iload_n h dX12_state_1 rfl ?_
  refine ca_iconst h dX12_state_2 ik_4 ?_
  refine ca_vi h hG ml_X12_192 (c_X12_tellN hs hN hx) (ci := 12) rfl rfl rfl (hs.1 _ _ _ ⟨rfl, rfl⟩) rfl rfl rfl rfl ⟨Nat.le_refl _, Nat.le_refl _⟩ rfl dX12_state_3 ?_
  refine ca_ireturn h hR rfl dX12_state_6 ?_
  exact ⟨rfl, rfl, rfl⟩
set_option maxHeartbeats 100000 in
theorem c_X12_servingCellN {l : Launch} {E : ch_E} {S : ch_S} {μ : ch_M} (hs : ch_Std E S) {n : ch_N} (hN : r_N n (μ 16 23 0)) {x : Int32} (hx : ¬ ∃ m, m < k_mc n ∧ x = nI m) : ch_C E l yX12_servingCell cX12_servingCell 2 (some FieldType.int) 4 0 0 S μ [.ref (S.1 16 22 0), .int x] (ch_F (some (.int (0))) S (r_th μ 1)) := by
  refine ch_enter rfl rfl ?_
  intro X hl0 h hG hR hnm
  have h : ch_H X E RX12 cX12_servingCell 2 := h
  show ch_W X E 2 S μ 0 0 0 [(0, .ref (S.1 16 22 0)), (1, .int x)] []
  refine ca_aload_nr h dX12_servingCell_0 rfl ?_
  refine ca_iload_n h dX12_servingCell_1 rfl ?_
  refine ca_iconst h dX12_servingCell_2 ik_5 ?_
  refine ca_vi h hG ml_X12_192 (c_X12_tellN hs hN hx) (ci := 12) rfl rfl rfl (hs.1 _ _ _ ⟨rfl, rfl⟩) rfl rfl rfl rfl ⟨Nat.le_refl _, Nat.le_refl _⟩ rfl dX12_servingCell_3 ?_
  refine ca_ireturn h hR rfl dX12_servingCell_6 ?_
  exact ⟨rfl, rfl, rfl⟩
set_option maxHeartbeats 100000 in
theorem c_X12_remainingN {l : Launch} {E : ch_E} {S : ch_S} {μ : ch_M} (hs : ch_Std E S) {n : ch_N} (hN : r_N n (μ 16 23 0)) {x : Int32} (hx : ¬ ∃ m, m < k_mc n ∧ x = nI m) : ch_C E l yX12_remaining cX12_remaining 2 (some FieldType.int) 4 0 0 S μ [.ref (S.1 16 22 0), .int x] (ch_F (some (.int (0))) S (r_th μ 1)) := by
  refine ch_enter rfl rfl ?_
  intro X hl0 h hG hR hnm
  have h : ch_H X E RX12 cX12_remaining 2 := h
  show ch_W X E 2 S μ 0 0 0 [(0, .ref (S.1 16 22 0)), (1, .int x)] []
  refine ca_aload_nr h dX12_remaining_0 rfl ?_
  refine ca_iload_n h dX12_remaining_1 rfl ?_
  refine ca_bipush h dX12_remaining_2 bk_6 ?_
  refine ca_vi h hG ml_X12_192 (c_X12_tellN hs hN hx) (ci := 12) rfl rfl rfl (hs.1 _ _ _ ⟨rfl, rfl⟩) rfl rfl rfl rfl ⟨Nat.le_refl _, Nat.le_refl _⟩ rfl dX12_remaining_4 ?_
  refine ca_ireturn h hR rfl dX12_remaining_7 ?_
  exact ⟨rfl, rfl, rfl⟩
set_option maxHeartbeats 100000 in
theorem c_X12_requestCellN {l : Launch} {E : ch_E} {S : ch_S} {μ : ch_M} (hs : ch_Std E S) {n : ch_N} (hN : r_N n (μ 16 23 0)) {x : Int32} (hx : ¬ ∃ m, m < k_mc n ∧ x = nI m) : ch_C E l yX12_requestCell cX12_requestCell 2 (some FieldType.int) 4 0 0 S μ [.ref (S.1 16 22 0), .int x] (ch_F (some (.int (0))) S (r_th μ 1)) := by
  refine ch_enter rfl rfl ?_
  intro X hl0 h hG hR hnm
  have h : ch_H X E RX12 cX12_requestCell 2 := h
  show ch_W X E 2 S μ 0 0 0 [(0, .ref (S.1 16 22 0)), (1, .int x)] []
  refine ca_aload_nr h dX12_requestCell_0 rfl ?_
  refine ca_iload_n h dX12_requestCell_1 rfl ?_
  refine ca_bipush h dX12_requestCell_2 bk_8 ?_
  refine ca_vi h hG ml_X12_192 (c_X12_tellN hs hN hx) (ci := 12) rfl rfl rfl (hs.1 _ _ _ ⟨rfl, rfl⟩) rfl rfl rfl rfl ⟨Nat.le_refl _, Nat.le_refl _⟩ rfl dX12_requestCell_4 ?_
  refine ca_ireturn h hR rfl dX12_requestCell_7 ?_
  exact ⟨rfl, rfl, rfl⟩
set_option maxHeartbeats 100000 in
theorem c_X12_congestedTicks {l : Launch} {E : ch_E} {S : ch_S} {μ : ch_M} (hs : ch_Std E S) {n : ch_N} (hN : r_N n (μ 16 23 0)) {c : Nat} (hc : c < k_cc n) : ch_C E l yX12_congestedTicks cX12_congestedTicks 2 (some FieldType.int) 3 0 0 S μ [.ref (S.1 16 22 0), .int (nI c)] (ch_F (some (.int (n 1 c 8))) S (r_th μ 0)) := by
  refine ch_enter rfl rfl ?_
  intro X hl0 h hG hR hnm
  have h : ch_H X E RX12 cX12_congestedTicks 2 := h
  have hc8 := r_c8 hN hc
  show ch_W X E 2 S μ 0 0 0 [(0, .ref (S.1 16 22 0)), (1, .int (nI c))] []
  refine ca_aload_nr h dX12_congestedTicks_0 rfl ?_
  refine ca_iconst h dX12_congestedTicks_1 ik_0 ?_
  refine pi_X12_70 h (hs.1 _ _ _ ⟨rfl, rfl⟩) dX12_congestedTicks_2 ?_
  refine ca_mem (μ'' := r_th μ 0) rfl ?_
  refine ca_aload_nr h dX12_congestedTicks_5 rfl ?_
  refine ca_iload_n h dX12_congestedTicks_6 rfl ?_
  refine ca_vi h hG ml_X12_104 (c_X12_isCell hs) (ci := 12) rfl rfl rfl (hs.1 _ _ _ ⟨rfl, rfl⟩) rfl rfl rfl rfl ⟨Nat.le_refl _, Nat.le_refl _⟩ rfl dX12_congestedTicks_7 ?_
  refine ca_if_ne (tgt := 19) h dX12_congestedTicks_10 (by decide) (fun c_10 => ?_) (fun c_10 => ?_)
  ·
    refine ca_aload_nr h dX12_congestedTicks_19 rfl ?_
    refine ca_iload_n h dX12_congestedTicks_20 rfl ?_
    refine ca_bipush h dX12_congestedTicks_21 bk_8 ?_
    refine ca_vi h hG ml_X12_85 (c_X12_ofCell hs (f := 8) (by omega) (by decide)) (ci := 12) rfl rfl rfl (hs.1 _ _ _ ⟨rfl, rfl⟩) rfl rfl rfl rfl ⟨Nat.le_refl _, Nat.le_refl _⟩ rfl dX12_congestedTicks_23 ?_
    refine ca_ireturn h hR rfl dX12_congestedTicks_26 ?_
    exact ⟨by rw [r_th_0, r_cf hN hc (f := 8) (by decide)], rfl, rfl⟩
  · exact absurd c_10 (fun z => of_decide_eq_false (bI_0.mp z) (by rw [r_th_0]; exact (r_isC hN _).mpr ⟨c, hc, rfl⟩))
set_option maxHeartbeats 100000 in
theorem c_X12_congestedTicksN {l : Launch} {E : ch_E} {S : ch_S} {μ : ch_M} (hs : ch_Std E S) {n : ch_N} (hN : r_N n (μ 16 23 0)) {x : Int32} (hx : ¬ ∃ c, c < k_cc n ∧ x = nI c) : ch_C E l yX12_congestedTicks cX12_congestedTicks 2 (some FieldType.int) 3 0 0 S μ [.ref (S.1 16 22 0), .int x] (ch_F (some (.int (0))) S (r_th μ 1)) := by
  refine ch_enter rfl rfl ?_
  intro X hl0 h hG hR hnm
  have h : ch_H X E RX12 cX12_congestedTicks 2 := h
  show ch_W X E 2 S μ 0 0 0 [(0, .ref (S.1 16 22 0)), (1, .int x)] []
  refine ca_aload_nr h dX12_congestedTicks_0 rfl ?_
  refine ca_iconst h dX12_congestedTicks_1 ik_0 ?_
  refine pi_X12_70 h (hs.1 _ _ _ ⟨rfl, rfl⟩) dX12_congestedTicks_2 ?_
  refine ca_mem (μ'' := r_th μ 0) rfl ?_
  refine ca_aload_nr h dX12_congestedTicks_5 rfl ?_
  refine ca_iload_n h dX12_congestedTicks_6 rfl ?_
  refine ca_vi h hG ml_X12_104 (c_X12_isCell hs) (ci := 12) rfl rfl rfl (hs.1 _ _ _ ⟨rfl, rfl⟩) rfl rfl rfl rfl ⟨Nat.le_refl _, Nat.le_refl _⟩ rfl dX12_congestedTicks_7 ?_
  refine ca_if_ne (tgt := 19) h dX12_congestedTicks_10 (by decide) (fun c_10 => ?_) (fun c_10 => ?_)
  · exact absurd c_10 (fun z => z (bI_0.mpr (decide_eq_false (fun y => hx ((r_isC hN _).mp (by rw [r_th_0] at y; exact y))))))
  ·
    refine ca_aload_nr h dX12_congestedTicks_13 rfl ?_
    refine ca_iconst h dX12_congestedTicks_14 ik_1 ?_
    refine ca_vi h hG ml_X12_108 (c_X12_raise hs) (ci := 12) rfl rfl rfl (hs.1 _ _ _ ⟨rfl, rfl⟩) rfl rfl rfl rfl ⟨Nat.le_refl _, Nat.le_refl _⟩ rfl dX12_congestedTicks_15 ?_
    refine ca_ireturn h hR rfl dX12_congestedTicks_18 ?_
    exact ⟨rfl, rfl, by rw [r_th_th]⟩
set_option maxHeartbeats 100000 in
theorem c_X12_busyChannels {l : Launch} {E : ch_E} {S : ch_S} {μ : ch_M} (hs : ch_Std E S) {n : ch_N} (hN : r_N n (μ 16 23 0)) {c : Nat} (hc : c < k_cc n) : ch_C E l yX12_busyChannels cX12_busyChannels 2 (some FieldType.int) 4 0 0 S μ [.ref (S.1 16 22 0), .int (nI c)] (ch_F (some (.int (k_tk n (nI c)))) S (r_th μ 0)) := by
  refine ch_enter rfl rfl ?_
  intro X hl0 h hG hR hnm
  have h : ch_H X E RX12 cX12_busyChannels 2 := h
  have hc8 := r_c8 hN hc
  show ch_W X E 2 S μ 0 0 0 [(0, .ref (S.1 16 22 0)), (1, .int (nI c))] []
  refine ca_aload_nr h dX12_busyChannels_0 rfl ?_
  refine ca_iconst h dX12_busyChannels_1 ik_0 ?_
  refine pi_X12_70 h (hs.1 _ _ _ ⟨rfl, rfl⟩) dX12_busyChannels_2 ?_
  refine ca_mem (μ'' := r_th μ 0) rfl ?_
  refine ca_aload_nr h dX12_busyChannels_5 rfl ?_
  refine ca_iload_n h dX12_busyChannels_6 rfl ?_
  refine ca_vi h hG ml_X12_104 (c_X12_isCell hs) (ci := 12) rfl rfl rfl (hs.1 _ _ _ ⟨rfl, rfl⟩) rfl rfl rfl rfl ⟨Nat.le_refl _, Nat.le_refl _⟩ rfl dX12_busyChannels_7 ?_
  refine ca_if_ne (tgt := 19) h dX12_busyChannels_10 (by decide) (fun c_10 => ?_) (fun c_10 => ?_)
  ·
    refine ca_aload_nr h dX12_busyChannels_19 rfl ?_
    refine ca_iload_n h dX12_busyChannels_20 rfl ?_
    refine ca_vi h hG ml_X12_138 (c_X12_busy hs (n := n) (by rw [r_th_23]; exact hN)) (ci := 12) rfl rfl rfl (hs.1 _ _ _ ⟨rfl, rfl⟩) rfl rfl rfl rfl ⟨Nat.le_refl _, Nat.le_refl _⟩ rfl dX12_busyChannels_21 ?_
    refine ca_ireturn h hR rfl dX12_busyChannels_24 ?_
    exact ⟨rfl, rfl, rfl⟩
  · exact absurd c_10 (fun z => of_decide_eq_false (bI_0.mp z) (by rw [r_th_0]; exact (r_isC hN _).mpr ⟨c, hc, rfl⟩))
set_option maxHeartbeats 100000 in
theorem c_X12_busyChannelsN {l : Launch} {E : ch_E} {S : ch_S} {μ : ch_M} (hs : ch_Std E S) {n : ch_N} (hN : r_N n (μ 16 23 0)) {x : Int32} (hx : ¬ ∃ c, c < k_cc n ∧ x = nI c) : ch_C E l yX12_busyChannels cX12_busyChannels 2 (some FieldType.int) 4 0 0 S μ [.ref (S.1 16 22 0), .int x] (ch_F (some (.int (0))) S (r_th μ 1)) := by
  refine ch_enter rfl rfl ?_
  intro X hl0 h hG hR hnm
  have h : ch_H X E RX12 cX12_busyChannels 2 := h
  show ch_W X E 2 S μ 0 0 0 [(0, .ref (S.1 16 22 0)), (1, .int x)] []
  refine ca_aload_nr h dX12_busyChannels_0 rfl ?_
  refine ca_iconst h dX12_busyChannels_1 ik_0 ?_
  refine pi_X12_70 h (hs.1 _ _ _ ⟨rfl, rfl⟩) dX12_busyChannels_2 ?_
  refine ca_mem (μ'' := r_th μ 0) rfl ?_
  refine ca_aload_nr h dX12_busyChannels_5 rfl ?_
  refine ca_iload_n h dX12_busyChannels_6 rfl ?_
  refine ca_vi h hG ml_X12_104 (c_X12_isCell hs) (ci := 12) rfl rfl rfl (hs.1 _ _ _ ⟨rfl, rfl⟩) rfl rfl rfl rfl ⟨Nat.le_refl _, Nat.le_refl _⟩ rfl dX12_busyChannels_7 ?_
  refine ca_if_ne (tgt := 19) h dX12_busyChannels_10 (by decide) (fun c_10 => ?_) (fun c_10 => ?_)
  · exact absurd c_10 (fun z => z (bI_0.mpr (decide_eq_false (fun y => hx ((r_isC hN _).mp (by rw [r_th_0] at y; exact y))))))
  ·
    refine ca_aload_nr h dX12_busyChannels_13 rfl ?_
    refine ca_iconst h dX12_busyChannels_14 ik_1 ?_
    refine ca_vi h hG ml_X12_108 (c_X12_raise hs) (ci := 12) rfl rfl rfl (hs.1 _ _ _ ⟨rfl, rfl⟩) rfl rfl rfl rfl ⟨Nat.le_refl _, Nat.le_refl _⟩ rfl dX12_busyChannels_15 ?_
    refine ca_ireturn h hR rfl dX12_busyChannels_18 ?_
    exact ⟨rfl, rfl, by rw [r_th_th]⟩
set_option maxHeartbeats 100000 in
theorem c_X12_queueLength {l : Launch} {E : ch_E} {S : ch_S} {μ : ch_M} (hs : ch_Std E S) {n : ch_N} (hN : r_N n (μ 16 23 0)) {c : Nat} (hc : c < k_cc n) : ch_C E l yX12_queueLength cX12_queueLength 2 (some FieldType.int) 3 0 0 S μ [.ref (S.1 16 22 0), .int (nI c)] (ch_F (some (.int (k_rq n (nI c)))) S (r_th μ 0)) := by
  refine ch_enter rfl rfl ?_
  intro X hl0 h hG hR hnm
  have h : ch_H X E RX12 cX12_queueLength 2 := h
  have hc8 := r_c8 hN hc
  show ch_W X E 2 S μ 0 0 0 [(0, .ref (S.1 16 22 0)), (1, .int (nI c))] []
  refine ca_aload_nr h dX12_queueLength_0 rfl ?_
  refine ca_iconst h dX12_queueLength_1 ik_0 ?_
  refine pi_X12_70 h (hs.1 _ _ _ ⟨rfl, rfl⟩) dX12_queueLength_2 ?_
  refine ca_mem (μ'' := r_th μ 0) rfl ?_
  refine ca_aload_nr h dX12_queueLength_5 rfl ?_
  refine ca_iload_n h dX12_queueLength_6 rfl ?_
  refine ca_vi h hG ml_X12_104 (c_X12_isCell hs) (ci := 12) rfl rfl rfl (hs.1 _ _ _ ⟨rfl, rfl⟩) rfl rfl rfl rfl ⟨Nat.le_refl _, Nat.le_refl _⟩ rfl dX12_queueLength_7 ?_
  refine ca_if_ne (tgt := 19) h dX12_queueLength_10 (by decide) (fun c_10 => ?_) (fun c_10 => ?_)
  ·
    refine ca_aload_nr h dX12_queueLength_19 rfl ?_
    refine ca_iload_n h dX12_queueLength_20 rfl ?_
    refine ca_vi h hG ml_X12_141 (c_X12_waitingAt hs (n := n) (by rw [r_th_23]; exact hN)) (ci := 12) rfl rfl rfl (hs.1 _ _ _ ⟨rfl, rfl⟩) rfl rfl rfl rfl ⟨Nat.le_refl _, Nat.le_refl _⟩ rfl dX12_queueLength_21 ?_
    refine ca_ireturn h hR rfl dX12_queueLength_24 ?_
    exact ⟨rfl, rfl, rfl⟩
  · exact absurd c_10 (fun z => of_decide_eq_false (bI_0.mp z) (by rw [r_th_0]; exact (r_isC hN _).mpr ⟨c, hc, rfl⟩))
set_option maxHeartbeats 100000 in
theorem c_X12_queueLengthN {l : Launch} {E : ch_E} {S : ch_S} {μ : ch_M} (hs : ch_Std E S) {n : ch_N} (hN : r_N n (μ 16 23 0)) {x : Int32} (hx : ¬ ∃ c, c < k_cc n ∧ x = nI c) : ch_C E l yX12_queueLength cX12_queueLength 2 (some FieldType.int) 3 0 0 S μ [.ref (S.1 16 22 0), .int x] (ch_F (some (.int (0))) S (r_th μ 1)) := by
  refine ch_enter rfl rfl ?_
  intro X hl0 h hG hR hnm
  have h : ch_H X E RX12 cX12_queueLength 2 := h
  show ch_W X E 2 S μ 0 0 0 [(0, .ref (S.1 16 22 0)), (1, .int x)] []
  refine ca_aload_nr h dX12_queueLength_0 rfl ?_
  refine ca_iconst h dX12_queueLength_1 ik_0 ?_
  refine pi_X12_70 h (hs.1 _ _ _ ⟨rfl, rfl⟩) dX12_queueLength_2 ?_
  refine ca_mem (μ'' := r_th μ 0) rfl ?_
  refine ca_aload_nr h dX12_queueLength_5 rfl ?_
  refine ca_iload_n h dX12_queueLength_6 rfl ?_
  refine ca_vi h hG ml_X12_104 (c_X12_isCell hs) (ci := 12) rfl rfl rfl (hs.1 _ _ _ ⟨rfl, rfl⟩) rfl rfl rfl rfl ⟨Nat.le_refl _, Nat.le_refl _⟩ rfl dX12_queueLength_7 ?_
  refine ca_if_ne (tgt := 19) h dX12_queueLength_10 (by decide) (fun c_10 => ?_) (fun c_10 => ?_)
  · exact absurd c_10 (fun z => z (bI_0.mpr (decide_eq_false (fun y => hx ((r_isC hN _).mp (by rw [r_th_0] at y; exact y))))))
  ·
    refine ca_aload_nr h dX12_queueLength_13 rfl ?_
    refine ca_iconst h dX12_queueLength_14 ik_1 ?_
    refine ca_vi h hG ml_X12_108 (c_X12_raise hs) (ci := 12) rfl rfl rfl (hs.1 _ _ _ ⟨rfl, rfl⟩) rfl rfl rfl rfl ⟨Nat.le_refl _, Nat.le_refl _⟩ rfl dX12_queueLength_15 ?_
    refine ca_ireturn h hR rfl dX12_queueLength_18 ?_
    exact ⟨rfl, rfl, by rw [r_th_th]⟩
