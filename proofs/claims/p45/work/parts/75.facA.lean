/-! THE FACADE: what each call asks first -/
def k_isc (n : ch_N) (x : Int32) : Prop := ¬ x < 0 ∧ x < n 0 0 0
def k_ism (n : ch_N) (x : Int32) : Prop := ¬ x < 0 ∧ x < n 0 0 2
def k_rg (lo hi x : Int32) : Prop := ¬ x < lo ∧ ¬ hi < x
set_option maxHeartbeats 100000 in
theorem c_X11_requireCell {l : Launch} {E : ch_E} {S : ch_S} {μ : ch_M} (hs : ch_Std E S) {x : Int32} (hx : k_isc (μ 0) x) : ch_C E l yX11_requireCell cX11_requireCell 2 none 1 0 0 S μ [.ref (S.1 15 11 0), .int x] (ch_F none S (μ)) := by
  refine ch_enter rfl rfl ?_
  intro X hl0 h hG hR hnm
  have h : ch_H X E RX11 cX11_requireCell 2 := h
  show ch_W X E 2 S μ 0 0 0 [(0, .ref (S.1 15 11 0)), (1, .int x)] []
  refine ca_iload_n h dX11_requireCell_0 rfl ?_
  refine ca_if_lt (tgt := 15) h dX11_requireCell_1 (by decide) (fun c_1 => ?_) (fun c_1 => ?_)
  · exact absurd c_1 hx.1
  ·
    refine ca_iload_n h dX11_requireCell_4 rfl ?_
    refine ca_aload_nr h dX11_requireCell_5 rfl ?_
    refine gs_X11_19 h hs (by show _ ∧ _; exact ⟨by first | assumption | rfl | omega, by first | assumption | rfl | omega⟩) dX11_requireCell_6 ?_
    refine gi_X11_90 h (hs.1 _ _ _ (by show _ ∧ _; exact ⟨by first | assumption | rfl | omega, by first | assumption | rfl | omega⟩)) dX11_requireCell_9 ?_
    refine ca_icmp_lt (tgt := 25) h dX11_requireCell_12 (by decide) (fun c_12 => ?_) (fun c_12 => ?_)
    ·
      refine ca_vreturn h hR dX11_requireCell_25 ?_
      exact ⟨rfl, rfl, rfl⟩
    · exact absurd hx.2 c_12
set_option maxHeartbeats 100000 in
theorem c_X11_requireMobile {l : Launch} {E : ch_E} {S : ch_S} {μ : ch_M} (hs : ch_Std E S) {x : Int32} (hx : k_ism (μ 0) x) : ch_C E l yX11_requireMobile cX11_requireMobile 2 none 1 0 0 S μ [.ref (S.1 15 11 0), .int x] (ch_F none S (μ)) := by
  refine ch_enter rfl rfl ?_
  intro X hl0 h hG hR hnm
  have h : ch_H X E RX11 cX11_requireMobile 2 := h
  show ch_W X E 2 S μ 0 0 0 [(0, .ref (S.1 15 11 0)), (1, .int x)] []
  refine ca_iload_n h dX11_requireMobile_0 rfl ?_
  refine ca_if_lt (tgt := 15) h dX11_requireMobile_1 (by decide) (fun c_1 => ?_) (fun c_1 => ?_)
  · exact absurd c_1 hx.1
  ·
    refine ca_iload_n h dX11_requireMobile_4 rfl ?_
    refine ca_aload_nr h dX11_requireMobile_5 rfl ?_
    refine gs_X11_19 h hs (by show _ ∧ _; exact ⟨by first | assumption | rfl | omega, by first | assumption | rfl | omega⟩) dX11_requireMobile_6 ?_
    refine gi_X11_99 h (hs.1 _ _ _ (by show _ ∧ _; exact ⟨by first | assumption | rfl | omega, by first | assumption | rfl | omega⟩)) dX11_requireMobile_9 ?_
    refine ca_icmp_lt (tgt := 26) h dX11_requireMobile_12 (by decide) (fun c_12 => ?_) (fun c_12 => ?_)
    ·
      refine ca_vreturn h hR dX11_requireMobile_26 ?_
      exact ⟨rfl, rfl, rfl⟩
    · exact absurd hx.2 c_12
set_option maxHeartbeats 100000 in
theorem c_X11_requireIndex {l : Launch} {E : ch_E} {S : ch_S} {μ : ch_M} {x : Int32} (hx : ¬ x < 0) : ch_C E l yX11_requireIndex cX11_requireIndex 1 none 1 0 0 S μ [.int x] (ch_F none S (μ)) := by
  refine ch_enter rfl rfl ?_
  intro X hl0 h hG hR hnm
  have h : ch_H X E RX11 cX11_requireIndex 1 := h
  show ch_W X E 1 S μ 0 0 0 [(0, .int x)] []
  refine ca_iload_n h dX11_requireIndex_0 rfl ?_
  refine ca_if_ge (tgt := 15) h dX11_requireIndex_1 (by decide) (fun c_1 => ?_) (fun c_1 => ?_)
  ·
    refine ca_vreturn h hR dX11_requireIndex_15 ?_
    exact ⟨rfl, rfl, rfl⟩
  · exact absurd c_1 hx
set_option maxHeartbeats 100000 in
theorem c_X11_requireRange {l : Launch} {E : ch_E} {S : ch_S} {μ : ch_M} {x lo hi : Int32} (hx : k_rg lo hi x) : ch_C E l yX11_requireRange cX11_requireRange 3 none 1 0 0 S μ [.int x, .int lo, .int hi] (ch_F none S (μ)) := by
  refine ch_enter rfl rfl ?_
  intro X hl0 h hG hR hnm
  have h : ch_H X E RX11 cX11_requireRange 3 := h
  show ch_W X E 3 S μ 0 0 0 [(0, .int x), (1, .int lo), (2, .int hi)] []
  refine ca_iload_n h dX11_requireRange_0 rfl ?_
  refine ca_iload_n h dX11_requireRange_1 rfl ?_
  refine ca_icmp_lt (tgt := 10) h dX11_requireRange_2 (by decide) (fun c_2 => ?_) (fun c_2 => ?_)
  · exact absurd c_2 hx.1
  ·
    refine ca_iload_n h dX11_requireRange_5 rfl ?_
    refine ca_iload_n h dX11_requireRange_6 rfl ?_
    refine ca_icmp_le (tgt := 21) h dX11_requireRange_7 (by decide) (fun c_7 => ?_) (fun c_7 => ?_)
    ·
      refine ca_vreturn h hR dX11_requireRange_21 ?_
      exact ⟨rfl, rfl, rfl⟩
    · exact absurd (by assumption) hx.2
