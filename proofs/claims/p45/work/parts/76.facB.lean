/-! THE FACADE: the calls -/
theorem k_isc_n {n : ch_N} {c : Nat} (h : c < k_cc n) : k_isc n (nI c) := by
  have := cn_lt31 (n 0 0 0)
  unfold k_cc at h
  exact ⟨nI_pos (by omega), (lt_cn (by omega)).mpr h⟩
theorem k_ism_n {n : ch_N} {c : Nat} (h : c < k_mc n) : k_ism n (nI c) := by
  have := cn_lt31 (n 0 0 2)
  unfold k_mc at h
  exact ⟨nI_pos (by omega), (lt_cn (by omega)).mpr h⟩
theorem k_isc_e {n : ch_N} {x : Int32} : k_isc n x ↔ ∃ c, c < k_cc n ∧ x = nI c := by
  constructor
  · intro h
    obtain ⟨j, hj, rfl⟩ := nI_of h.1
    have hz : ¬ n 0 0 0 < 0 := fun z => absurd (Int32.lt_trans h.2 z) h.1
    refine ⟨j, ?_, rfl⟩
    have h2 := h.2
    rw [← nI_cn hz] at h2
    exact (nI_ltI hj (cn_lt31 _)).mp h2
  · rintro ⟨c, h, rfl⟩; exact k_isc_n h
theorem k_ism_e {n : ch_N} {x : Int32} : k_ism n x ↔ ∃ c, c < k_mc n ∧ x = nI c := by
  constructor
  · intro h
    obtain ⟨j, hj, rfl⟩ := nI_of h.1
    have hz : ¬ n 0 0 2 < 0 := fun z => absurd (Int32.lt_trans h.2 z) h.1
    refine ⟨j, ?_, rfl⟩
    have h2 := h.2
    rw [← nI_cn hz] at h2
    exact (nI_ltI hj (cn_lt31 _)).mp h2
  · rintro ⟨c, h, rfl⟩; exact k_ism_n h
def k_tk9 (n : ch_N) (most x : Int32) : Prop := k_rg 0 most x ∧ k_rg 0 100000 (n 0 0 3 + x)
set_option maxHeartbeats 100000 in
theorem c_X11_requireTicks {l : Launch} {E : ch_E} {S : ch_S} {μ : ch_M} (hs : ch_Std E S) {x t : Int32} (hx : k_tk9 (μ 0) t x) : ch_C E l yX11_requireTicks cX11_requireTicks 3 none 2 0 0 S μ [.ref (S.1 15 11 0), .int x, .int t] (ch_F none S (μ)) := by
  refine ch_enter rfl rfl ?_
  intro X hl0 h hG hR hnm
  have h : ch_H X E RX11 cX11_requireTicks 3 := h
  show ch_W X E 3 S μ 0 0 0 [(0, .ref (S.1 15 11 0)), (1, .int x), (2, .int t)] []
  refine ca_iload_n h dX11_requireTicks_0 rfl ?_
  refine ca_iconst h dX11_requireTicks_1 ik_0 ?_
  refine ca_iload_n h dX11_requireTicks_2 rfl ?_
  refine ca_sv h hG ms_X11_62 (c_X11_requireRange hx.1) rfl rfl rfl rfl ⟨Nat.le_refl _, Nat.le_refl _⟩ rfl dX11_requireTicks_3 ?_
  refine ca_aload_nr h dX11_requireTicks_6 rfl ?_
  refine gs_X11_19 h hs (by show _ ∧ _; exact ⟨by first | assumption | rfl | omega, by first | assumption | rfl | omega⟩) dX11_requireTicks_7 ?_
  refine gi_X11_102 h (hs.1 _ _ _ (by show _ ∧ _; exact ⟨by first | assumption | rfl | omega, by first | assumption | rfl | omega⟩)) dX11_requireTicks_10 ?_
  refine ca_iload_n h dX11_requireTicks_13 rfl ?_
  refine ca_iadd h dX11_requireTicks_14 ?_
  refine ca_iconst h dX11_requireTicks_15 ik_0 ?_
  refine ca_ldcw h kw_480 dX11_requireTicks_16 ?_
  refine ca_sv h hG ms_X11_62 (c_X11_requireRange hx.2) rfl rfl rfl rfl ⟨Nat.le_refl _, Nat.le_refl _⟩ rfl dX11_requireTicks_19 ?_
  refine ca_vreturn h hR dX11_requireTicks_22 ?_
  exact ⟨rfl, rfl, rfl⟩
set_option maxHeartbeats 100000 in
theorem c_X11_mobileCount {l : Launch} {E : ch_E} {S : ch_S} {μ : ch_M} (hs : ch_Std E S) : ch_C E l yX11_mobileCount cX11_mobileCount 1 (some FieldType.int) 1 0 0 S μ [.ref (S.1 15 11 0)] (ch_F (some (.int (μ 0 0 0 2))) S (μ)) := by
  refine ch_enter rfl rfl ?_
  intro X hl0 h hG hR hnm
  have h : ch_H X E RX11 cX11_mobileCount 1 := h
  show ch_W X E 1 S μ 0 0 0 [(0, .ref (S.1 15 11 0))] []
  refine ca_aload_nr h dX11_mobileCount_0 rfl ?_
  refine gs_X11_19 h hs (by show _ ∧ _; exact ⟨by first | assumption | rfl | omega, by first | assumption | rfl | omega⟩) dX11_mobileCount_1 ?_
  refine gi_X11_99 h (hs.1 _ _ _ (by show _ ∧ _; exact ⟨by first | assumption | rfl | omega, by first | assumption | rfl | omega⟩)) dX11_mobileCount_4 ?_
  refine ca_ireturn h hR rfl dX11_mobileCount_7 ?_
  exact ⟨rfl, rfl, rfl⟩
set_option maxHeartbeats 100000 in
theorem c_X11_clock {l : Launch} {E : ch_E} {S : ch_S} {μ : ch_M} (hs : ch_Std E S) : ch_C E l yX11_clock cX11_clock 1 (some FieldType.int) 1 0 0 S μ [.ref (S.1 15 11 0)] (ch_F (some (.int (μ 0 0 0 3))) S (μ)) := by
  refine ch_enter rfl rfl ?_
  intro X hl0 h hG hR hnm
  have h : ch_H X E RX11 cX11_clock 1 := h
  show ch_W X E 1 S μ 0 0 0 [(0, .ref (S.1 15 11 0))] []
  refine ca_aload_nr h dX11_clock_0 rfl ?_
  refine gs_X11_19 h hs (by show _ ∧ _; exact ⟨by first | assumption | rfl | omega, by first | assumption | rfl | omega⟩) dX11_clock_1 ?_
  refine gi_X11_102 h (hs.1 _ _ _ (by show _ ∧ _; exact ⟨by first | assumption | rfl | omega, by first | assumption | rfl | omega⟩)) dX11_clock_4 ?_
  refine ca_ireturn h hR rfl dX11_clock_7 ?_
  exact ⟨rfl, rfl, rfl⟩
set_option maxHeartbeats 100000 in
theorem c_X11_undoCount {l : Launch} {E : ch_E} {S : ch_S} {μ : ch_M} (hs : ch_Std E S) : ch_C E l yX11_undoCount cX11_undoCount 1 (some FieldType.int) 1 0 0 S μ [.ref (S.1 15 11 0)] (ch_F (some (.int (μ 15 14 0 0))) S (μ)) := by
  refine ch_enter rfl rfl ?_
  intro X hl0 h hG hR hnm
  have h : ch_H X E RX11 cX11_undoCount 1 := h
  show ch_W X E 1 S μ 0 0 0 [(0, .ref (S.1 15 11 0))] []
  refine ca_aload_nr h dX11_undoCount_0 rfl ?_
  refine gs_X11_32 h hs (by show _ ∧ _; exact ⟨by first | assumption | rfl | omega, by first | assumption | rfl | omega⟩) dX11_undoCount_1 ?_
  refine gi_X11_234 h (hs.1 _ _ _ (by show _ ∧ _; exact ⟨by first | assumption | rfl | omega, by first | assumption | rfl | omega⟩)) dX11_undoCount_4 ?_
  refine ca_ireturn h hR rfl dX11_undoCount_7 ?_
  exact ⟨rfl, rfl, rfl⟩
set_option maxHeartbeats 100000 in
theorem c_X11_total {l : Launch} {E : ch_E} {S : ch_S} {μ : ch_M} (hs : ch_Std E S) {x : Int32} : ch_C E l yX11_total cX11_total 2 (some FieldType.int) 2 0 0 S μ [.ref (S.1 15 11 0), .int x] (ch_F (some (.int (k_tot (μ 0) x))) S (μ)) := by
  refine ch_enter rfl rfl ?_
  intro X hl0 h hG hR hnm
  have h : ch_H X E RX11 cX11_total 2 := h
  show ch_W X E 2 S μ 0 0 0 [(0, .ref (S.1 15 11 0)), (1, .int x)] []
  refine ca_aload_nr h dX11_total_0 rfl ?_
  refine gs_X11_19 h hs (by show _ ∧ _; exact ⟨by first | assumption | rfl | omega, by first | assumption | rfl | omega⟩) dX11_total_1 ?_
  refine ca_iload_n h dX11_total_4 rfl ?_
  refine ca_vi h hG ml_X11_182 (c_X3_totalOf hs (by decide)) (ci := 3) rfl rfl rfl (hs.1 _ _ _ (by show _ ∧ _; exact ⟨by first | assumption | rfl | omega, by first | assumption | rfl | omega⟩)) rfl rfl rfl rfl ⟨Nat.le_refl _, Nat.le_refl _⟩ rfl dX11_total_5 ?_
  refine ca_ireturn h hR rfl dX11_total_8 ?_
  exact ⟨rfl, rfl, rfl⟩
set_option maxHeartbeats 100000 in
theorem c_X11_hysteresis {l : Launch} {E : ch_E} {S : ch_S} {μ : ch_M} (hs : ch_Std E S) {a b : Nat} (hc8 : k_cc (μ 0) ≤ 8) (ha : a < k_cc (μ 0)) (hb : b < k_cc (μ 0)) : ch_C E l yX11_hysteresis cX11_hysteresis 4 (some FieldType.int) 2 0 0 S μ [.ref (S.1 15 11 0), .int (nI a), .int (nI b)] (ch_F (some (.int (if μ 0 2 (8 * a + b) 0 = 0 then (-1) else μ 0 2 (8 * a + b) 1))) S (μ)) := by
  refine ch_enter rfl rfl ?_
  intro X hl0 h hG hR hnm
  have h : ch_H X E RX11 cX11_hysteresis 4 := h
  have q0 : k_isc (μ 0) (nI a) := k_isc_n ha
  have q1 : k_isc (μ 0) (nI b) := k_isc_n hb
  have ha8 : a < 8 := by omega
  have hb8 : b < 8 := by omega
  show ch_W X E 4 S μ 0 0 0 [(0, .ref (S.1 15 11 0)), (1, .int (nI a)), (2, .int (nI b))] []
  refine ca_aload_nr h dX11_hysteresis_0 rfl ?_
  refine ca_iload_n h dX11_hysteresis_1 rfl ?_
  refine ca_vv h hG ml_X11_105 (c_X11_requireCell hs q0) (ci := 11) rfl rfl rfl (hs.1 _ _ _ (by show _ ∧ _; exact ⟨by first | assumption | rfl | omega, by first | assumption | rfl | omega⟩)) rfl rfl rfl rfl ⟨Nat.le_refl _, Nat.le_refl _⟩ rfl dX11_hysteresis_2 ?_
  refine ca_aload_nr h dX11_hysteresis_5 rfl ?_
  refine ca_iload_n h dX11_hysteresis_6 rfl ?_
  refine ca_vv h hG ml_X11_105 (c_X11_requireCell hs q1) (ci := 11) rfl rfl rfl (hs.1 _ _ _ (by show _ ∧ _; exact ⟨by first | assumption | rfl | omega, by first | assumption | rfl | omega⟩)) rfl rfl rfl rfl ⟨Nat.le_refl _, Nat.le_refl _⟩ rfl dX11_hysteresis_7 ?_
  refine ca_aload_nr h dX11_hysteresis_10 rfl ?_
  refine gs_X11_19 h hs (by show _ ∧ _; exact ⟨by first | assumption | rfl | omega, by first | assumption | rfl | omega⟩) dX11_hysteresis_11 ?_
  refine ca_iload_n h dX11_hysteresis_14 rfl ?_
  refine ca_iload_n h dX11_hysteresis_15 rfl ?_
  refine ca_vr h hG ml_X11_108 (c_X3_relJ hs (by decide) ha8 hb8) (ci := 3) rfl rfl rfl (hs.1 _ _ _ (by show _ ∧ _; exact ⟨by first | assumption | rfl | omega, by first | assumption | rfl | omega⟩)) rfl rfl rfl rfl ⟨Nat.le_refl _, Nat.le_refl _⟩ rfl dX11_hysteresis_16 ?_
  refine ca_astore_n h dX11_hysteresis_19 rfl ?_
  refine ca_aload_nr h dX11_hysteresis_20 rfl ?_
  refine gi_X11_112 h (hs.1 _ _ _ (by show _ ∧ _; exact ⟨by first | assumption | rfl | omega, by first | assumption | rfl | omega⟩)) dX11_hysteresis_21 ?_
  refine ca_if_eq (tgt := 34) h dX11_hysteresis_24 (by decide) (fun c_24 => ?_) (fun c_24 => ?_)
  ·
    refine ca_iconst h dX11_hysteresis_34 ik_m1 ?_
    refine ca_ireturn h hR rfl dX11_hysteresis_35 ?_
    exact ⟨by rw [if_pos (by assumption)], rfl, rfl⟩
  ·
    refine ca_aload_nr h dX11_hysteresis_27 rfl ?_
    refine gi_X11_117 h (hs.1 _ _ _ (by show _ ∧ _; exact ⟨by first | assumption | rfl | omega, by first | assumption | rfl | omega⟩)) dX11_hysteresis_28 ?_
    refine ca_goto (tgt := 35) h dX11_hysteresis_31 (by decide) ?_
    refine ca_ireturn h hR rfl dX11_hysteresis_35 ?_
    exact ⟨by rw [if_neg (by assumption)], rfl, rfl⟩
set_option maxHeartbeats 100000 in
theorem c_X11_successes {l : Launch} {E : ch_E} {S : ch_S} {μ : ch_M} (hs : ch_Std E S) {a b : Nat} (hc8 : k_cc (μ 0) ≤ 8) (ha : a < k_cc (μ 0)) (hb : b < k_cc (μ 0)) : ch_C E l yX11_successes cX11_successes 3 (some FieldType.int) 2 0 0 S μ [.ref (S.1 15 11 0), .int (nI a), .int (nI b)] (ch_F (some (.int (μ 0 2 (8 * a + b) 2))) S (μ)) := by
  refine ch_enter rfl rfl ?_
  intro X hl0 h hG hR hnm
  have h : ch_H X E RX11 cX11_successes 3 := h
  have q0 : k_isc (μ 0) (nI a) := k_isc_n ha
  have q1 : k_isc (μ 0) (nI b) := k_isc_n hb
  have ha8 : a < 8 := by omega
  have hb8 : b < 8 := by omega
  show ch_W X E 3 S μ 0 0 0 [(0, .ref (S.1 15 11 0)), (1, .int (nI a)), (2, .int (nI b))] []
  refine ca_aload_nr h dX11_successes_0 rfl ?_
  refine ca_iload_n h dX11_successes_1 rfl ?_
  refine ca_vv h hG ml_X11_105 (c_X11_requireCell hs q0) (ci := 11) rfl rfl rfl (hs.1 _ _ _ (by show _ ∧ _; exact ⟨by first | assumption | rfl | omega, by first | assumption | rfl | omega⟩)) rfl rfl rfl rfl ⟨Nat.le_refl _, Nat.le_refl _⟩ rfl dX11_successes_2 ?_
  refine ca_aload_nr h dX11_successes_5 rfl ?_
  refine ca_iload_n h dX11_successes_6 rfl ?_
  refine ca_vv h hG ml_X11_105 (c_X11_requireCell hs q1) (ci := 11) rfl rfl rfl (hs.1 _ _ _ (by show _ ∧ _; exact ⟨by first | assumption | rfl | omega, by first | assumption | rfl | omega⟩)) rfl rfl rfl rfl ⟨Nat.le_refl _, Nat.le_refl _⟩ rfl dX11_successes_7 ?_
  refine ca_aload_nr h dX11_successes_10 rfl ?_
  refine gs_X11_19 h hs (by show _ ∧ _; exact ⟨by first | assumption | rfl | omega, by first | assumption | rfl | omega⟩) dX11_successes_11 ?_
  refine ca_iload_n h dX11_successes_14 rfl ?_
  refine ca_iload_n h dX11_successes_15 rfl ?_
  refine ca_vr h hG ml_X11_108 (c_X3_relJ hs (by decide) ha8 hb8) (ci := 3) rfl rfl rfl (hs.1 _ _ _ (by show _ ∧ _; exact ⟨by first | assumption | rfl | omega, by first | assumption | rfl | omega⟩)) rfl rfl rfl rfl ⟨Nat.le_refl _, Nat.le_refl _⟩ rfl dX11_successes_16 ?_
  refine gi_X11_225 h (hs.1 _ _ _ (by show _ ∧ _; exact ⟨by first | assumption | rfl | omega, by first | assumption | rfl | omega⟩)) dX11_successes_19 ?_
  refine ca_ireturn h hR rfl dX11_successes_22 ?_
  exact ⟨rfl, rfl, rfl⟩
set_option maxHeartbeats 100000 in
theorem c_X11_refusals {l : Launch} {E : ch_E} {S : ch_S} {μ : ch_M} (hs : ch_Std E S) {a b : Nat} (hc8 : k_cc (μ 0) ≤ 8) (ha : a < k_cc (μ 0)) (hb : b < k_cc (μ 0)) : ch_C E l yX11_refusals cX11_refusals 3 (some FieldType.int) 2 0 0 S μ [.ref (S.1 15 11 0), .int (nI a), .int (nI b)] (ch_F (some (.int (μ 0 2 (8 * a + b) 3))) S (μ)) := by
  refine ch_enter rfl rfl ?_
  intro X hl0 h hG hR hnm
  have h : ch_H X E RX11 cX11_refusals 3 := h
  have q0 : k_isc (μ 0) (nI a) := k_isc_n ha
  have q1 : k_isc (μ 0) (nI b) := k_isc_n hb
  have ha8 : a < 8 := by omega
  have hb8 : b < 8 := by omega
  show ch_W X E 3 S μ 0 0 0 [(0, .ref (S.1 15 11 0)), (1, .int (nI a)), (2, .int (nI b))] []
  refine ca_aload_nr h dX11_refusals_0 rfl ?_
  refine ca_iload_n h dX11_refusals_1 rfl ?_
  refine ca_vv h hG ml_X11_105 (c_X11_requireCell hs q0) (ci := 11) rfl rfl rfl (hs.1 _ _ _ (by show _ ∧ _; exact ⟨by first | assumption | rfl | omega, by first | assumption | rfl | omega⟩)) rfl rfl rfl rfl ⟨Nat.le_refl _, Nat.le_refl _⟩ rfl dX11_refusals_2 ?_
  refine ca_aload_nr h dX11_refusals_5 rfl ?_
  refine ca_iload_n h dX11_refusals_6 rfl ?_
  refine ca_vv h hG ml_X11_105 (c_X11_requireCell hs q1) (ci := 11) rfl rfl rfl (hs.1 _ _ _ (by show _ ∧ _; exact ⟨by first | assumption | rfl | omega, by first | assumption | rfl | omega⟩)) rfl rfl rfl rfl ⟨Nat.le_refl _, Nat.le_refl _⟩ rfl dX11_refusals_7 ?_
  refine ca_aload_nr h dX11_refusals_10 rfl ?_
  refine gs_X11_19 h hs (by show _ ∧ _; exact ⟨by first | assumption | rfl | omega, by first | assumption | rfl | omega⟩) dX11_refusals_11 ?_
  refine ca_iload_n h dX11_refusals_14 rfl ?_
  refine ca_iload_n h dX11_refusals_15 rfl ?_
  refine ca_vr h hG ml_X11_108 (c_X3_relJ hs (by decide) ha8 hb8) (ci := 3) rfl rfl rfl (hs.1 _ _ _ (by show _ ∧ _; exact ⟨by first | assumption | rfl | omega, by first | assumption | rfl | omega⟩)) rfl rfl rfl rfl ⟨Nat.le_refl _, Nat.le_refl _⟩ rfl dX11_refusals_16 ?_
  refine gi_X11_228 h (hs.1 _ _ _ (by show _ ∧ _; exact ⟨by first | assumption | rfl | omega, by first | assumption | rfl | omega⟩)) dX11_refusals_19 ?_
  refine ca_ireturn h hR rfl dX11_refusals_22 ?_
  exact ⟨rfl, rfl, rfl⟩
set_option maxHeartbeats 100000 in
theorem c_X11_x {l : Launch} {E : ch_E} {S : ch_S} {μ : ch_M} (hs : ch_Std E S) {m : Nat} (hm12 : k_mc (μ 0) ≤ 12) (hm : m < k_mc (μ 0)) : ch_C E l yX11_x cX11_x 2 (some FieldType.int) 2 0 0 S μ [.ref (S.1 15 11 0), .int (nI m)] (ch_F (some (.int (μ 0 3 m 0))) S (μ)) := by
  refine ch_enter rfl rfl ?_
  intro X hl0 h hG hR hnm
  have h : ch_H X E RX11 cX11_x 2 := h
  have q0 : k_ism (μ 0) (nI m) := k_ism_n hm
  have hm2 : m < 12 := by omega
  show ch_W X E 2 S μ 0 0 0 [(0, .ref (S.1 15 11 0)), (1, .int (nI m))] []
  refine ca_aload_nr h dX11_x_0 rfl ?_
  refine ca_iload_n h dX11_x_1 rfl ?_
  refine ca_vv h hG ml_X11_153 (c_X11_requireMobile hs q0) (ci := 11) rfl rfl rfl (hs.1 _ _ _ (by show _ ∧ _; exact ⟨by first | assumption | rfl | omega, by first | assumption | rfl | omega⟩)) rfl rfl rfl rfl ⟨Nat.le_refl _, Nat.le_refl _⟩ rfl dX11_x_2 ?_
  refine ca_aload_nr h dX11_x_5 rfl ?_
  refine gs_X11_19 h hs (by show _ ∧ _; exact ⟨by first | assumption | rfl | omega, by first | assumption | rfl | omega⟩) dX11_x_6 ?_
  refine ca_iload_n h dX11_x_9 rfl ?_
  refine ca_vr h hG ml_X11_143 (c_X3_mobileJ hs (by decide) hm2) (ci := 3) rfl rfl rfl (hs.1 _ _ _ (by show _ ∧ _; exact ⟨by first | assumption | rfl | omega, by first | assumption | rfl | omega⟩)) rfl rfl rfl rfl ⟨Nat.le_refl _, Nat.le_refl _⟩ rfl dX11_x_10 ?_
  refine gi_X11_165 h (hs.1 _ _ _ (by show _ ∧ _; exact ⟨by first | assumption | rfl | omega, by first | assumption | rfl | omega⟩)) dX11_x_13 ?_
  refine ca_ireturn h hR rfl dX11_x_16 ?_
  exact ⟨rfl, rfl, rfl⟩
set_option maxHeartbeats 100000 in
theorem c_X11_y {l : Launch} {E : ch_E} {S : ch_S} {μ : ch_M} (hs : ch_Std E S) {m : Nat} (hm12 : k_mc (μ 0) ≤ 12) (hm : m < k_mc (μ 0)) : ch_C E l yX11_y cX11_y 2 (some FieldType.int) 2 0 0 S μ [.ref (S.1 15 11 0), .int (nI m)] (ch_F (some (.int (μ 0 3 m 1))) S (μ)) := by
  refine ch_enter rfl rfl ?_
  intro X hl0 h hG hR hnm
  have h : ch_H X E RX11 cX11_y 2 := h
  have q0 : k_ism (μ 0) (nI m) := k_ism_n hm
  have hm2 : m < 12 := by omega
  show ch_W X E 2 S μ 0 0 0 [(0, .ref (S.1 15 11 0)), (1, .int (nI m))] []
  refine ca_aload_nr h dX11_y_0 rfl ?_
  refine ca_iload_n h dX11_y_1 rfl ?_
  refine ca_vv h hG ml_X11_153 (c_X11_requireMobile hs q0) (ci := 11) rfl rfl rfl (hs.1 _ _ _ (by show _ ∧ _; exact ⟨by first | assumption | rfl | omega, by first | assumption | rfl | omega⟩)) rfl rfl rfl rfl ⟨Nat.le_refl _, Nat.le_refl _⟩ rfl dX11_y_2 ?_
  refine ca_aload_nr h dX11_y_5 rfl ?_
  refine gs_X11_19 h hs (by show _ ∧ _; exact ⟨by first | assumption | rfl | omega, by first | assumption | rfl | omega⟩) dX11_y_6 ?_
  refine ca_iload_n h dX11_y_9 rfl ?_
  refine ca_vr h hG ml_X11_143 (c_X3_mobileJ hs (by decide) hm2) (ci := 3) rfl rfl rfl (hs.1 _ _ _ (by show _ ∧ _; exact ⟨by first | assumption | rfl | omega, by first | assumption | rfl | omega⟩)) rfl rfl rfl rfl ⟨Nat.le_refl _, Nat.le_refl _⟩ rfl dX11_y_10 ?_
  refine gi_X11_168 h (hs.1 _ _ _ (by show _ ∧ _; exact ⟨by first | assumption | rfl | omega, by first | assumption | rfl | omega⟩)) dX11_y_13 ?_
  refine ca_ireturn h hR rfl dX11_y_16 ?_
  exact ⟨rfl, rfl, rfl⟩
set_option maxHeartbeats 100000 in
theorem c_X11_state {l : Launch} {E : ch_E} {S : ch_S} {μ : ch_M} (hs : ch_Std E S) {m : Nat} (hm12 : k_mc (μ 0) ≤ 12) (hm : m < k_mc (μ 0)) : ch_C E l yX11_state cX11_state 2 (some FieldType.int) 2 0 0 S μ [.ref (S.1 15 11 0), .int (nI m)] (ch_F (some (.int (μ 0 3 m 4))) S (μ)) := by
  refine ch_enter rfl rfl ?_
  intro X hl0 h hG hR hnm
  have h : ch_H X E RX11 cX11_state 2 := h
  have q0 : k_ism (μ 0) (nI m) := k_ism_n hm
  have hm2 : m < 12 := by omega
  show ch_W X E 2 S μ 0 0 0 [(0, .ref (S.1 15 11 0)), (1, .int (nI m))] []
  refine ca_aload_nr h dX11_state_0 rfl ?_
  refine ca_iload_n h dX11_state_1 rfl ?_
  refine ca_vv h hG ml_X11_153 (c_X11_requireMobile hs q0) (ci := 11) rfl rfl rfl (hs.1 _ _ _ (by show _ ∧ _; exact ⟨by first | assumption | rfl | omega, by first | assumption | rfl | omega⟩)) rfl rfl rfl rfl ⟨Nat.le_refl _, Nat.le_refl _⟩ rfl dX11_state_2 ?_
  refine ca_aload_nr h dX11_state_5 rfl ?_
  refine gs_X11_19 h hs (by show _ ∧ _; exact ⟨by first | assumption | rfl | omega, by first | assumption | rfl | omega⟩) dX11_state_6 ?_
  refine ca_iload_n h dX11_state_9 rfl ?_
  refine ca_vr h hG ml_X11_143 (c_X3_mobileJ hs (by decide) hm2) (ci := 3) rfl rfl rfl (hs.1 _ _ _ (by show _ ∧ _; exact ⟨by first | assumption | rfl | omega, by first | assumption | rfl | omega⟩)) rfl rfl rfl rfl ⟨Nat.le_refl _, Nat.le_refl _⟩ rfl dX11_state_10 ?_
  refine gi_X11_162 h (hs.1 _ _ _ (by show _ ∧ _; exact ⟨by first | assumption | rfl | omega, by first | assumption | rfl | omega⟩)) dX11_state_13 ?_
  refine ca_ireturn h hR rfl dX11_state_16 ?_
  exact ⟨rfl, rfl, rfl⟩
set_option maxHeartbeats 100000 in
theorem c_X11_servingCell {l : Launch} {E : ch_E} {S : ch_S} {μ : ch_M} (hs : ch_Std E S) {m : Nat} (hm12 : k_mc (μ 0) ≤ 12) (hm : m < k_mc (μ 0)) : ch_C E l yX11_servingCell cX11_servingCell 2 (some FieldType.int) 2 0 0 S μ [.ref (S.1 15 11 0), .int (nI m)] (ch_F (some (.int (μ 0 3 m 5))) S (μ)) := by
  refine ch_enter rfl rfl ?_
  intro X hl0 h hG hR hnm
  have h : ch_H X E RX11 cX11_servingCell 2 := h
  have q0 : k_ism (μ 0) (nI m) := k_ism_n hm
  have hm2 : m < 12 := by omega
  show ch_W X E 2 S μ 0 0 0 [(0, .ref (S.1 15 11 0)), (1, .int (nI m))] []
  refine ca_aload_nr h dX11_servingCell_0 rfl ?_
  refine ca_iload_n h dX11_servingCell_1 rfl ?_
  refine ca_vv h hG ml_X11_153 (c_X11_requireMobile hs q0) (ci := 11) rfl rfl rfl (hs.1 _ _ _ (by show _ ∧ _; exact ⟨by first | assumption | rfl | omega, by first | assumption | rfl | omega⟩)) rfl rfl rfl rfl ⟨Nat.le_refl _, Nat.le_refl _⟩ rfl dX11_servingCell_2 ?_
  refine ca_aload_nr h dX11_servingCell_5 rfl ?_
  refine gs_X11_19 h hs (by show _ ∧ _; exact ⟨by first | assumption | rfl | omega, by first | assumption | rfl | omega⟩) dX11_servingCell_6 ?_
  refine ca_iload_n h dX11_servingCell_9 rfl ?_
  refine ca_vr h hG ml_X11_143 (c_X3_mobileJ hs (by decide) hm2) (ci := 3) rfl rfl rfl (hs.1 _ _ _ (by show _ ∧ _; exact ⟨by first | assumption | rfl | omega, by first | assumption | rfl | omega⟩)) rfl rfl rfl rfl ⟨Nat.le_refl _, Nat.le_refl _⟩ rfl dX11_servingCell_10 ?_
  refine gi_X11_190 h (hs.1 _ _ _ (by show _ ∧ _; exact ⟨by first | assumption | rfl | omega, by first | assumption | rfl | omega⟩)) dX11_servingCell_13 ?_
  refine ca_ireturn h hR rfl dX11_servingCell_16 ?_
  exact ⟨rfl, rfl, rfl⟩
set_option maxHeartbeats 100000 in
theorem c_X11_remaining {l : Launch} {E : ch_E} {S : ch_S} {μ : ch_M} (hs : ch_Std E S) {m : Nat} (hm12 : k_mc (μ 0) ≤ 12) (hm : m < k_mc (μ 0)) : ch_C E l yX11_remaining cX11_remaining 2 (some FieldType.int) 2 0 0 S μ [.ref (S.1 15 11 0), .int (nI m)] (ch_F (some (.int (μ 0 3 m 6))) S (μ)) := by
  refine ch_enter rfl rfl ?_
  intro X hl0 h hG hR hnm
  have h : ch_H X E RX11 cX11_remaining 2 := h
  have q0 : k_ism (μ 0) (nI m) := k_ism_n hm
  have hm2 : m < 12 := by omega
  show ch_W X E 2 S μ 0 0 0 [(0, .ref (S.1 15 11 0)), (1, .int (nI m))] []
  refine ca_aload_nr h dX11_remaining_0 rfl ?_
  refine ca_iload_n h dX11_remaining_1 rfl ?_
  refine ca_vv h hG ml_X11_153 (c_X11_requireMobile hs q0) (ci := 11) rfl rfl rfl (hs.1 _ _ _ (by show _ ∧ _; exact ⟨by first | assumption | rfl | omega, by first | assumption | rfl | omega⟩)) rfl rfl rfl rfl ⟨Nat.le_refl _, Nat.le_refl _⟩ rfl dX11_remaining_2 ?_
  refine ca_aload_nr h dX11_remaining_5 rfl ?_
  refine gs_X11_19 h hs (by show _ ∧ _; exact ⟨by first | assumption | rfl | omega, by first | assumption | rfl | omega⟩) dX11_remaining_6 ?_
  refine ca_iload_n h dX11_remaining_9 rfl ?_
  refine ca_vr h hG ml_X11_143 (c_X3_mobileJ hs (by decide) hm2) (ci := 3) rfl rfl rfl (hs.1 _ _ _ (by show _ ∧ _; exact ⟨by first | assumption | rfl | omega, by first | assumption | rfl | omega⟩)) rfl rfl rfl rfl ⟨Nat.le_refl _, Nat.le_refl _⟩ rfl dX11_remaining_10 ?_
  refine gi_X11_193 h (hs.1 _ _ _ (by show _ ∧ _; exact ⟨by first | assumption | rfl | omega, by first | assumption | rfl | omega⟩)) dX11_remaining_13 ?_
  refine ca_ireturn h hR rfl dX11_remaining_16 ?_
  exact ⟨rfl, rfl, rfl⟩
set_option maxHeartbeats 100000 in
theorem c_X11_requestCell {l : Launch} {E : ch_E} {S : ch_S} {μ : ch_M} (hs : ch_Std E S) {m : Nat} (hm12 : k_mc (μ 0) ≤ 12) (hm : m < k_mc (μ 0)) : ch_C E l yX11_requestCell cX11_requestCell 2 (some FieldType.int) 2 0 0 S μ [.ref (S.1 15 11 0), .int (nI m)] (ch_F (some (.int (μ 0 3 m 8))) S (μ)) := by
  refine ch_enter rfl rfl ?_
  intro X hl0 h hG hR hnm
  have h : ch_H X E RX11 cX11_requestCell 2 := h
  have q0 : k_ism (μ 0) (nI m) := k_ism_n hm
  have hm2 : m < 12 := by omega
  show ch_W X E 2 S μ 0 0 0 [(0, .ref (S.1 15 11 0)), (1, .int (nI m))] []
  refine ca_aload_nr h dX11_requestCell_0 rfl ?_
  refine ca_iload_n h dX11_requestCell_1 rfl ?_
  refine ca_vv h hG ml_X11_153 (c_X11_requireMobile hs q0) (ci := 11) rfl rfl rfl (hs.1 _ _ _ (by show _ ∧ _; exact ⟨by first | assumption | rfl | omega, by first | assumption | rfl | omega⟩)) rfl rfl rfl rfl ⟨Nat.le_refl _, Nat.le_refl _⟩ rfl dX11_requestCell_2 ?_
  refine ca_aload_nr h dX11_requestCell_5 rfl ?_
  refine gs_X11_19 h hs (by show _ ∧ _; exact ⟨by first | assumption | rfl | omega, by first | assumption | rfl | omega⟩) dX11_requestCell_6 ?_
  refine ca_iload_n h dX11_requestCell_9 rfl ?_
  refine ca_vr h hG ml_X11_143 (c_X3_mobileJ hs (by decide) hm2) (ci := 3) rfl rfl rfl (hs.1 _ _ _ (by show _ ∧ _; exact ⟨by first | assumption | rfl | omega, by first | assumption | rfl | omega⟩)) rfl rfl rfl rfl ⟨Nat.le_refl _, Nat.le_refl _⟩ rfl dX11_requestCell_10 ?_
  refine gi_X11_196 h (hs.1 _ _ _ (by show _ ∧ _; exact ⟨by first | assumption | rfl | omega, by first | assumption | rfl | omega⟩)) dX11_requestCell_13 ?_
  refine ca_ireturn h hR rfl dX11_requestCell_16 ?_
  exact ⟨rfl, rfl, rfl⟩
set_option maxHeartbeats 100000 in
theorem c_X11_average {l : Launch} {E : ch_E} {S : ch_S} {μ : ch_M} (hs : ch_Std E S) {m c : Nat} (hw : k_wf (μ 0)) (hm : m < k_mc (μ 0)) (hc : c < k_cc (μ 0)) : ch_C E l yX11_average cX11_average 3 (some FieldType.int) 2 0 0 S μ [.ref (S.1 15 11 0), .int (nI m), .int (nI c)] (ch_F (some (.int (k_avg (μ 0) m (nI c)))) S (μ)) := by
  refine ch_enter rfl rfl ?_
  intro X hl0 h hG hR hnm
  have h : ch_H X E RX11 cX11_average 3 := h
  have q0 : k_ism (μ 0) (nI m) := k_ism_n hm
  have q1 : k_isc (μ 0) (nI c) := k_isc_n hc
  have hm12 := hw.1
  have hc8 := hw.2.1
  have hm2 : m < 12 := by omega
  show ch_W X E 3 S μ 0 0 0 [(0, .ref (S.1 15 11 0)), (1, .int (nI m)), (2, .int (nI c))] []
  refine ca_aload_nr h dX11_average_0 rfl ?_
  refine ca_iload_n h dX11_average_1 rfl ?_
  refine ca_vv h hG ml_X11_153 (c_X11_requireMobile hs q0) (ci := 11) rfl rfl rfl (hs.1 _ _ _ (by show _ ∧ _; exact ⟨by first | assumption | rfl | omega, by first | assumption | rfl | omega⟩)) rfl rfl rfl rfl ⟨Nat.le_refl _, Nat.le_refl _⟩ rfl dX11_average_2 ?_
  refine ca_aload_nr h dX11_average_5 rfl ?_
  refine ca_iload_n h dX11_average_6 rfl ?_
  refine ca_vv h hG ml_X11_105 (c_X11_requireCell hs q1) (ci := 11) rfl rfl rfl (hs.1 _ _ _ (by show _ ∧ _; exact ⟨by first | assumption | rfl | omega, by first | assumption | rfl | omega⟩)) rfl rfl rfl rfl ⟨Nat.le_refl _, Nat.le_refl _⟩ rfl dX11_average_7 ?_
  refine ca_aload_nr h dX11_average_10 rfl ?_
  refine gs_X11_19 h hs (by show _ ∧ _; exact ⟨by first | assumption | rfl | omega, by first | assumption | rfl | omega⟩) dX11_average_11 ?_
  refine ca_iload_n h dX11_average_14 rfl ?_
  refine ca_vr h hG ml_X11_143 (c_X3_mobileJ hs (by decide) hm2) (ci := 3) rfl rfl rfl (hs.1 _ _ _ (by show _ ∧ _; exact ⟨by first | assumption | rfl | omega, by first | assumption | rfl | omega⟩)) rfl rfl rfl rfl ⟨Nat.le_refl _, Nat.le_refl _⟩ rfl dX11_average_15 ?_
  refine ca_iload_n h dX11_average_18 rfl ?_
  refine ca_vi h hG ml_X11_199 (c_X2_averageOf hs (by decide) (by omega) (fun c hc => (hw.cnt (by omega) c hc))) (ci := 2) rfl rfl rfl (hs.1 _ _ _ (by show _ ∧ _; exact ⟨by first | assumption | rfl | omega, by first | assumption | rfl | omega⟩)) rfl rfl rfl rfl ⟨Nat.le_refl _, Nat.le_refl _⟩ rfl dX11_average_19 ?_
  refine ca_ireturn h hR rfl dX11_average_22 ?_
  exact ⟨rfl, rfl, rfl⟩
set_option maxHeartbeats 100000 in
theorem c_X11_reportCount {l : Launch} {E : ch_E} {S : ch_S} {μ : ch_M} (hs : ch_Std E S) {m c : Nat} (hw : k_wf (μ 0)) (hm : m < k_mc (μ 0)) (hc : c < k_cc (μ 0)) : ch_C E l yX11_reportCount cX11_reportCount 3 (some FieldType.int) 2 0 0 S μ [.ref (S.1 15 11 0), .int (nI m), .int (nI c)] (ch_F (some (.int (k_rep (μ 0) m (nI c)))) S (μ)) := by
  refine ch_enter rfl rfl ?_
  intro X hl0 h hG hR hnm
  have h : ch_H X E RX11 cX11_reportCount 3 := h
  have q0 : k_ism (μ 0) (nI m) := k_ism_n hm
  have q1 : k_isc (μ 0) (nI c) := k_isc_n hc
  have hm12 := hw.1
  have hc8 := hw.2.1
  have hm2 : m < 12 := by omega
  show ch_W X E 3 S μ 0 0 0 [(0, .ref (S.1 15 11 0)), (1, .int (nI m)), (2, .int (nI c))] []
  refine ca_aload_nr h dX11_reportCount_0 rfl ?_
  refine ca_iload_n h dX11_reportCount_1 rfl ?_
  refine ca_vv h hG ml_X11_153 (c_X11_requireMobile hs q0) (ci := 11) rfl rfl rfl (hs.1 _ _ _ (by show _ ∧ _; exact ⟨by first | assumption | rfl | omega, by first | assumption | rfl | omega⟩)) rfl rfl rfl rfl ⟨Nat.le_refl _, Nat.le_refl _⟩ rfl dX11_reportCount_2 ?_
  refine ca_aload_nr h dX11_reportCount_5 rfl ?_
  refine ca_iload_n h dX11_reportCount_6 rfl ?_
  refine ca_vv h hG ml_X11_105 (c_X11_requireCell hs q1) (ci := 11) rfl rfl rfl (hs.1 _ _ _ (by show _ ∧ _; exact ⟨by first | assumption | rfl | omega, by first | assumption | rfl | omega⟩)) rfl rfl rfl rfl ⟨Nat.le_refl _, Nat.le_refl _⟩ rfl dX11_reportCount_7 ?_
  refine ca_aload_nr h dX11_reportCount_10 rfl ?_
  refine gs_X11_19 h hs (by show _ ∧ _; exact ⟨by first | assumption | rfl | omega, by first | assumption | rfl | omega⟩) dX11_reportCount_11 ?_
  refine ca_iload_n h dX11_reportCount_14 rfl ?_
  refine ca_vr h hG ml_X11_143 (c_X3_mobileJ hs (by decide) hm2) (ci := 3) rfl rfl rfl (hs.1 _ _ _ (by show _ ∧ _; exact ⟨by first | assumption | rfl | omega, by first | assumption | rfl | omega⟩)) rfl rfl rfl rfl ⟨Nat.le_refl _, Nat.le_refl _⟩ rfl dX11_reportCount_15 ?_
  refine ca_iload_n h dX11_reportCount_18 rfl ?_
  refine ca_vi h hG ml_X11_202 (c_X2_reportsOf hs (by decide) (by omega)) (ci := 2) rfl rfl rfl (hs.1 _ _ _ (by show _ ∧ _; exact ⟨by first | assumption | rfl | omega, by first | assumption | rfl | omega⟩)) rfl rfl rfl rfl ⟨Nat.le_refl _, Nat.le_refl _⟩ rfl dX11_reportCount_19 ?_
  refine ca_ireturn h hR rfl dX11_reportCount_22 ?_
  exact ⟨rfl, rfl, rfl⟩
set_option maxHeartbeats 100000 in
theorem c_X11_isBarred {l : Launch} {E : ch_E} {S : ch_S} {μ : ch_M} (hs : ch_Std E S) {m c : Nat} (hw : k_wf (μ 0)) (hm : m < k_mc (μ 0)) (hc : c < k_cc (μ 0)) : ch_C E l yX11_isBarred cX11_isBarred 3 (some FieldType.boolean) 2 0 0 S μ [.ref (S.1 15 11 0), .int (nI m), .int (nI c)] (ch_F (some (.int (bI (k_isb (μ 0) m (nI c) (μ 0 0 0 3))))) S (μ)) := by
  refine ch_enter rfl rfl ?_
  intro X hl0 h hG hR hnm
  have h : ch_H X E RX11 cX11_isBarred 3 := h
  have q0 : k_ism (μ 0) (nI m) := k_ism_n hm
  have q1 : k_isc (μ 0) (nI c) := k_isc_n hc
  have hm12 := hw.1
  have hc8 := hw.2.1
  have hm2 : m < 12 := by omega
  show ch_W X E 3 S μ 0 0 0 [(0, .ref (S.1 15 11 0)), (1, .int (nI m)), (2, .int (nI c))] []
  refine ca_aload_nr h dX11_isBarred_0 rfl ?_
  refine ca_iload_n h dX11_isBarred_1 rfl ?_
  refine ca_vv h hG ml_X11_153 (c_X11_requireMobile hs q0) (ci := 11) rfl rfl rfl (hs.1 _ _ _ (by show _ ∧ _; exact ⟨by first | assumption | rfl | omega, by first | assumption | rfl | omega⟩)) rfl rfl rfl rfl ⟨Nat.le_refl _, Nat.le_refl _⟩ rfl dX11_isBarred_2 ?_
  refine ca_aload_nr h dX11_isBarred_5 rfl ?_
  refine ca_iload_n h dX11_isBarred_6 rfl ?_
  refine ca_vv h hG ml_X11_105 (c_X11_requireCell hs q1) (ci := 11) rfl rfl rfl (hs.1 _ _ _ (by show _ ∧ _; exact ⟨by first | assumption | rfl | omega, by first | assumption | rfl | omega⟩)) rfl rfl rfl rfl ⟨Nat.le_refl _, Nat.le_refl _⟩ rfl dX11_isBarred_7 ?_
  refine ca_aload_nr h dX11_isBarred_10 rfl ?_
  refine gs_X11_19 h hs (by show _ ∧ _; exact ⟨by first | assumption | rfl | omega, by first | assumption | rfl | omega⟩) dX11_isBarred_11 ?_
  refine ca_iload_n h dX11_isBarred_14 rfl ?_
  refine ca_vr h hG ml_X11_143 (c_X3_mobileJ hs (by decide) hm2) (ci := 3) rfl rfl rfl (hs.1 _ _ _ (by show _ ∧ _; exact ⟨by first | assumption | rfl | omega, by first | assumption | rfl | omega⟩)) rfl rfl rfl rfl ⟨Nat.le_refl _, Nat.le_refl _⟩ rfl dX11_isBarred_15 ?_
  refine ca_iload_n h dX11_isBarred_18 rfl ?_
  refine ca_aload_nr h dX11_isBarred_19 rfl ?_
  refine gs_X11_19 h hs (by show _ ∧ _; exact ⟨by first | assumption | rfl | omega, by first | assumption | rfl | omega⟩) dX11_isBarred_20 ?_
  refine gi_X11_102 h (hs.1 _ _ _ (by show _ ∧ _; exact ⟨by first | assumption | rfl | omega, by first | assumption | rfl | omega⟩)) dX11_isBarred_23 ?_
  refine ca_vi h hG ml_X11_205 (c_X2_isBarredAt hs (by decide) (by omega)) (ci := 2) rfl rfl rfl (hs.1 _ _ _ (by show _ ∧ _; exact ⟨by first | assumption | rfl | omega, by first | assumption | rfl | omega⟩)) rfl rfl rfl rfl ⟨Nat.le_refl _, Nat.le_refl _⟩ rfl dX11_isBarred_26 ?_
  refine ca_ireturn h hR (bI_z _) dX11_isBarred_29 ?_
  exact ⟨rfl, rfl, rfl⟩
set_option maxHeartbeats 100000 in
theorem c_X11_candidate {l : Launch} {E : ch_E} {S : ch_S} {μ : ch_M} (hs : ch_Std E S) {m : Nat} {y : Int32} (hw : k_wf (μ 0)) (hm : m < k_mc (μ 0)) (hy : ¬ y < 0) : ch_C E l yX11_candidate cX11_candidate 3 (some FieldType.int) 5 0 0 S μ [.ref (S.1 15 11 0), .int (nI m), .int y] (ch_F (some (.int (k_car (k_rank (μ 0) (μ 15) (k_ix 12 12 (nI m))) y))) S (up μ 15 (k_rank (μ 0) (μ 15) (k_ix 12 12 (nI m))))) := by
  refine ch_enter rfl rfl ?_
  intro X hl0 h hG hR hnm
  have h : ch_H X E RX11 cX11_candidate 3 := h
  have q0 : k_ism (μ 0) (nI m) := k_ism_n hm
  have q1 : ¬ y < 0 := hy
  show ch_W X E 3 S μ 0 0 0 [(0, .ref (S.1 15 11 0)), (1, .int (nI m)), (2, .int y)] []
  refine ca_aload_nr h dX11_candidate_0 rfl ?_
  refine ca_iload_n h dX11_candidate_1 rfl ?_
  refine ca_vv h hG ml_X11_153 (c_X11_requireMobile hs q0) (ci := 11) rfl rfl rfl (hs.1 _ _ _ (by show _ ∧ _; exact ⟨by first | assumption | rfl | omega, by first | assumption | rfl | omega⟩)) rfl rfl rfl rfl ⟨Nat.le_refl _, Nat.le_refl _⟩ rfl dX11_candidate_2 ?_
  refine ca_iload_n h dX11_candidate_5 rfl ?_
  refine ca_sv h hG ms_X11_209 (c_X11_requireIndex q1) rfl rfl rfl rfl ⟨Nat.le_refl _, Nat.le_refl _⟩ rfl dX11_candidate_6 ?_
  refine ca_aload_nr h dX11_candidate_9 rfl ?_
  refine gs_X11_39 h hs (by show _ ∧ _; exact ⟨by first | assumption | rfl | omega, by first | assumption | rfl | omega⟩) dX11_candidate_10 ?_
  refine ca_aload_nr h dX11_candidate_13 rfl ?_
  refine gs_X11_19 h hs (by show _ ∧ _; exact ⟨by first | assumption | rfl | omega, by first | assumption | rfl | omega⟩) dX11_candidate_14 ?_
  refine ca_iload_n h dX11_candidate_17 rfl ?_
  refine ca_iload_n h dX11_candidate_18 rfl ?_
  refine ca_vi h hG ml_X11_212 (c_X8_candidateAt hs (by decide) hw) (ci := 8) rfl rfl rfl (hs.1 _ _ _ (by show _ ∧ _; exact ⟨by first | assumption | rfl | omega, by first | assumption | rfl | omega⟩)) rfl rfl rfl rfl ⟨Nat.le_refl _, Nat.le_refl _⟩ rfl dX11_candidate_19 ?_
  refine ca_ireturn h hR rfl dX11_candidate_22 ?_
  exact ⟨rfl, rfl, rfl⟩
set_option maxHeartbeats 100000 in
theorem c_X11_busyChannels {l : Launch} {E : ch_E} {S : ch_S} {μ : ch_M} (hs : ch_Std E S) {c : Nat} (hm12 : k_mc (μ 0) ≤ 12) (hc : c < k_cc (μ 0)) : ch_C E l yX11_busyChannels cX11_busyChannels 2 (some FieldType.int) 3 0 0 S μ [.ref (S.1 15 11 0), .int (nI c)] (ch_F (some (.int (k_tk (μ 0) (nI c)))) S (μ)) := by
  refine ch_enter rfl rfl ?_
  intro X hl0 h hG hR hnm
  have h : ch_H X E RX11 cX11_busyChannels 2 := h
  have q0 : k_isc (μ 0) (nI c) := k_isc_n hc
  show ch_W X E 2 S μ 0 0 0 [(0, .ref (S.1 15 11 0)), (1, .int (nI c))] []
  refine ca_aload_nr h dX11_busyChannels_0 rfl ?_
  refine ca_iload_n h dX11_busyChannels_1 rfl ?_
  refine ca_vv h hG ml_X11_105 (c_X11_requireCell hs q0) (ci := 11) rfl rfl rfl (hs.1 _ _ _ (by show _ ∧ _; exact ⟨by first | assumption | rfl | omega, by first | assumption | rfl | omega⟩)) rfl rfl rfl rfl ⟨Nat.le_refl _, Nat.le_refl _⟩ rfl dX11_busyChannels_2 ?_
  refine ca_aload_nr h dX11_busyChannels_5 rfl ?_
  refine gs_X11_19 h hs (by show _ ∧ _; exact ⟨by first | assumption | rfl | omega, by first | assumption | rfl | omega⟩) dX11_busyChannels_6 ?_
  refine ca_iload_n h dX11_busyChannels_9 rfl ?_
  refine ca_vi h hG ml_X11_216 (c_X3_talkersIn hs (by decide) hm12) (ci := 3) rfl rfl rfl (hs.1 _ _ _ (by show _ ∧ _; exact ⟨by first | assumption | rfl | omega, by first | assumption | rfl | omega⟩)) rfl rfl rfl rfl ⟨Nat.le_refl _, Nat.le_refl _⟩ rfl dX11_busyChannels_10 ?_
  refine ca_ireturn h hR rfl dX11_busyChannels_13 ?_
  exact ⟨rfl, rfl, rfl⟩
set_option maxHeartbeats 100000 in
theorem c_X11_queueLength {l : Launch} {E : ch_E} {S : ch_S} {μ : ch_M} (hs : ch_Std E S) {c : Nat} (hm12 : k_mc (μ 0) ≤ 12) (hc : c < k_cc (μ 0)) : ch_C E l yX11_queueLength cX11_queueLength 2 (some FieldType.int) 3 0 0 S μ [.ref (S.1 15 11 0), .int (nI c)] (ch_F (some (.int (k_rq (μ 0) (nI c)))) S (μ)) := by
  refine ch_enter rfl rfl ?_
  intro X hl0 h hG hR hnm
  have h : ch_H X E RX11 cX11_queueLength 2 := h
  have q0 : k_isc (μ 0) (nI c) := k_isc_n hc
  show ch_W X E 2 S μ 0 0 0 [(0, .ref (S.1 15 11 0)), (1, .int (nI c))] []
  refine ca_aload_nr h dX11_queueLength_0 rfl ?_
  refine ca_iload_n h dX11_queueLength_1 rfl ?_
  refine ca_vv h hG ml_X11_105 (c_X11_requireCell hs q0) (ci := 11) rfl rfl rfl (hs.1 _ _ _ (by show _ ∧ _; exact ⟨by first | assumption | rfl | omega, by first | assumption | rfl | omega⟩)) rfl rfl rfl rfl ⟨Nat.le_refl _, Nat.le_refl _⟩ rfl dX11_queueLength_2 ?_
  refine ca_aload_nr h dX11_queueLength_5 rfl ?_
  refine gs_X11_19 h hs (by show _ ∧ _; exact ⟨by first | assumption | rfl | omega, by first | assumption | rfl | omega⟩) dX11_queueLength_6 ?_
  refine ca_iload_n h dX11_queueLength_9 rfl ?_
  refine ca_vi h hG ml_X11_219 (c_X3_requestsAt hs (by decide) hm12) (ci := 3) rfl rfl rfl (hs.1 _ _ _ (by show _ ∧ _; exact ⟨by first | assumption | rfl | omega, by first | assumption | rfl | omega⟩)) rfl rfl rfl rfl ⟨Nat.le_refl _, Nat.le_refl _⟩ rfl dX11_queueLength_10 ?_
  refine ca_ireturn h hR rfl dX11_queueLength_13 ?_
  exact ⟨rfl, rfl, rfl⟩
set_option maxHeartbeats 100000 in
theorem c_X11_queued {l : Launch} {E : ch_E} {S : ch_S} {μ : ch_M} (hs : ch_Std E S) {c : Nat} {y : Int32} (hm12 : k_mc (μ 0) ≤ 12) (hc : c < k_cc (μ 0)) (hy : ¬ y < 0) : ch_C E l yX11_queued cX11_queued 3 (some FieldType.int) 5 0 0 S μ [.ref (S.1 15 11 0), .int (nI c), .int y] (ch_F (some (.int (k_qm (μ 0) (nI c) y))) S (μ)) := by
  refine ch_enter rfl rfl ?_
  intro X hl0 h hG hR hnm
  have h : ch_H X E RX11 cX11_queued 3 := h
  have q0 : k_isc (μ 0) (nI c) := k_isc_n hc
  have q1 : ¬ y < 0 := hy
  show ch_W X E 3 S μ 0 0 0 [(0, .ref (S.1 15 11 0)), (1, .int (nI c)), (2, .int y)] []
  refine ca_aload_nr h dX11_queued_0 rfl ?_
  refine ca_iload_n h dX11_queued_1 rfl ?_
  refine ca_vv h hG ml_X11_105 (c_X11_requireCell hs q0) (ci := 11) rfl rfl rfl (hs.1 _ _ _ (by show _ ∧ _; exact ⟨by first | assumption | rfl | omega, by first | assumption | rfl | omega⟩)) rfl rfl rfl rfl ⟨Nat.le_refl _, Nat.le_refl _⟩ rfl dX11_queued_2 ?_
  refine ca_iload_n h dX11_queued_5 rfl ?_
  refine ca_sv h hG ms_X11_209 (c_X11_requireIndex q1) rfl rfl rfl rfl ⟨Nat.le_refl _, Nat.le_refl _⟩ rfl dX11_queued_6 ?_
  refine ca_aload_nr h dX11_queued_9 rfl ?_
  refine gs_X11_19 h hs (by show _ ∧ _; exact ⟨by first | assumption | rfl | omega, by first | assumption | rfl | omega⟩) dX11_queued_10 ?_
  refine ca_iload_n h dX11_queued_13 rfl ?_
  refine ca_iload_n h dX11_queued_14 rfl ?_
  refine ca_vi h hG ml_X11_222 (c_X3_queuedMobile hs (by decide) hm12) (ci := 3) rfl rfl rfl (hs.1 _ _ _ (by show _ ∧ _; exact ⟨by first | assumption | rfl | omega, by first | assumption | rfl | omega⟩)) rfl rfl rfl rfl ⟨Nat.le_refl _, Nat.le_refl _⟩ rfl dX11_queued_15 ?_
  refine ca_ireturn h hR rfl dX11_queued_18 ?_
  exact ⟨rfl, rfl, rfl⟩
set_option maxHeartbeats 100000 in
theorem c_X11_congestedTicks {l : Launch} {E : ch_E} {S : ch_S} {μ : ch_M} (hs : ch_Std E S) {c : Nat} (hc8 : k_cc (μ 0) ≤ 8) (hc : c < k_cc (μ 0)) : ch_C E l yX11_congestedTicks cX11_congestedTicks 2 (some FieldType.int) 2 0 0 S μ [.ref (S.1 15 11 0), .int (nI c)] (ch_F (some (.int (μ 0 1 c 8))) S (μ)) := by
  refine ch_enter rfl rfl ?_
  intro X hl0 h hG hR hnm
  have h : ch_H X E RX11 cX11_congestedTicks 2 := h
  have q0 : k_isc (μ 0) (nI c) := k_isc_n hc
  have hc8 : c < 8 := by omega
  show ch_W X E 2 S μ 0 0 0 [(0, .ref (S.1 15 11 0)), (1, .int (nI c))] []
  refine ca_aload_nr h dX11_congestedTicks_0 rfl ?_
  refine ca_iload_n h dX11_congestedTicks_1 rfl ?_
  refine ca_vv h hG ml_X11_105 (c_X11_requireCell hs q0) (ci := 11) rfl rfl rfl (hs.1 _ _ _ (by show _ ∧ _; exact ⟨by first | assumption | rfl | omega, by first | assumption | rfl | omega⟩)) rfl rfl rfl rfl ⟨Nat.le_refl _, Nat.le_refl _⟩ rfl dX11_congestedTicks_2 ?_
  refine ca_aload_nr h dX11_congestedTicks_5 rfl ?_
  refine gs_X11_19 h hs (by show _ ∧ _; exact ⟨by first | assumption | rfl | omega, by first | assumption | rfl | omega⟩) dX11_congestedTicks_6 ?_
  refine ca_iload_n h dX11_congestedTicks_9 rfl ?_
  refine ca_vr h hG ml_X11_120 (c_X3_cellJ hs (by decide) hc8) (ci := 3) rfl rfl rfl (hs.1 _ _ _ (by show _ ∧ _; exact ⟨by first | assumption | rfl | omega, by first | assumption | rfl | omega⟩)) rfl rfl rfl rfl ⟨Nat.le_refl _, Nat.le_refl _⟩ rfl dX11_congestedTicks_10 ?_
  refine gi_X11_231 h (hs.1 _ _ _ (by show _ ∧ _; exact ⟨by first | assumption | rfl | omega, by first | assumption | rfl | omega⟩)) dX11_congestedTicks_13 ?_
  refine ca_ireturn h hR rfl dX11_congestedTicks_16 ?_
  exact ⟨rfl, rfl, rfl⟩
