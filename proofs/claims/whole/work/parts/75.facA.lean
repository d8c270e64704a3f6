/-! THE FACADE: what each call asks first -/
def k_isc (n : ch_N) (x : Int32) : Prop := ¬ x < 0 ∧ x < n 0 0 0
def k_ism (n : ch_N) (x : Int32) : Prop := ¬ x < 0 ∧ x < n 0 0 2
def k_rg (lo hi x : Int32) : Prop := ¬ x < lo ∧ ¬ hi < x
theorem ns_cls : Cond.classLink RX11 253 vy_ns ∈ ch_GL := kw_742
theorem ns_ini : Cond.initialized vy_ns ∈ ch_GL := kw_24
theorem ns_at : ∀ w ∈ (vx_atS RX11 257 vy_ns vy_up).filter goodWord, w ≠ vy_b1 → w ≠ vy_b2 → w ∈ ch_GL := gl_but [130, 636, 643, 646, 648, 650, 637, 638, 151, 152, 639, 642, 647, 665, 626, 666, 628, 667, 630, 640, 641, 632, 661, 662, 664, 632, 830, 655, 655, 656, 657, 658, 658, 659, 660, 661, 829, 822, 823, 645, 824, 825, 826, 827, 635, 634, 828] (by decide +kernel)
theorem ns_bad : ∀ w ∈ (vx_atS RX11 257 vy_ns vy_up).filter (fun w => !goodWord w), w ∈ ch_cast.map (fun q => Cond.castable q.1 q.2) ++ ch_decl.map Cond.declares := by decide +kernel
theorem ns_13 : ∀ w ∈ (Bundle.passSAtoms vy_ns vy_rt 13 vy_six).filter goodWord, w ∈ ch_GL := gl_at [830, 831, 832, 655] (by decide +kernel)
theorem ns_good : ∀ w ∈ Cond.classLink RX11 253 vy_ns :: Cond.initialized vy_ns :: vx_atS RX11 257 vy_ns vy_up, vx_ot w = true := by decide +kernel
def vy_ia : String := "java/lang/IllegalArgumentException"
theorem ia_cls : Cond.classLink RX11 265 vy_ia ∈ ch_GL := kw_516
theorem ia_ini : Cond.initialized vy_ia ∈ ch_GL := kw_15
theorem ia_at : ∀ w ∈ (vx_atS RX11 269 vy_ia vy_up).filter goodWord, w ∈ ch_GL := gl_at [130, 636, 643, 646, 648, 650, 637, 638, 151, 152, 639, 642, 647, 665, 626, 666, 628, 667, 630, 640, 641, 632, 661, 662, 664, 632, 652, 653, 654, 655, 655, 656, 657, 658, 658, 659, 660, 661, 651, 622, 623, 624, 625, 627, 629, 631, 635, 634, 633] (by decide +kernel)
theorem ia_bad : ∀ w ∈ (vx_atS RX11 269 vy_ia vy_up).filter (fun w => !goodWord w), w ∈ ch_cast.map (fun q => Cond.castable q.1 q.2) ++ ch_decl.map Cond.declares := by decide +kernel
theorem ia_good : ∀ w ∈ Cond.classLink RX11 265 vy_ia :: Cond.initialized vy_ia :: vx_atS RX11 269 vy_ia vy_up, vx_ot w = true := by decide +kernel
set_option maxHeartbeats 100000 in
theorem c_X11_requireCell {l : Launch} {E : ch_E} {S : ch_S} {μ : ch_M} (hs : ch_Std E S) {x : Int32} (hx : k_isc (μ 0) x) : ch_C E l yX11_requireCell cX11_requireCell 2 none 1 0 0 S μ [.ref (S.1 15 11 0), .int x] (ch_F none S (μ)) := by
  refine ch_enter rfl rfl ?_
  intro X hl0 h hG hR hnm
  have h : ch_H X E RX11 cX11_requireCell 2 := h
  show ch_W X E 2 S μ 0 0 0 [(0, .ref (S.1 15 11 0)), (1, .int x)] []
  refine ca_iload_n h dX11_requireCell_0 rfl ?_
  refine ca_if_lt (tgt := 15) h dX11_requireCell_1 (by decide) (fun c_1 => ?_) (fun c_1 => ?_)
  · exact absurd c_1 hx.1
  ·
    refine ca_iload_n h dX11_requireCell_4 rfl ?_
    refine ca_aload_nr h dX11_requireCell_5 rfl ?_
    refine gs_X11_19 h hs (by show _ ∧ _; exact ⟨by first | assumption | rfl | omega, by first | assumption | rfl | omega⟩) dX11_requireCell_6 ?_
    refine gi_X11_90 h (hs.1 _ _ _ (by show _ ∧ _; exact ⟨by first | assumption | rfl | omega, by first | assumption | rfl | omega⟩)) dX11_requireCell_9 ?_
    refine ca_icmp_lt (tgt := 25) h dX11_requireCell_12 (by decide) (fun c_12 => ?_) (fun c_12 => ?_)
    ·
      refine ca_vreturn h hR dX11_requireCell_25 ?_
      exact ⟨rfl, rfl, rfl⟩
    · exact absurd hx.2 c_12
set_option maxHeartbeats 200000 in
theorem c_X11_requireCell_t {l : Launch} {E : ch_E} {S : ch_S} {μ : ch_M} (hl : l.stackTraces = false) (hs : ch_Std E S) {x : Int32} (hx : ¬ k_isc (μ 0) x) : ch_CX E l yX11_requireCell cX11_requireCell 2 none 6 1 6 S μ [.ref (S.1 15 11 0), .int x] (ch_FT vy_ns S μ) := by
  refine ch_enterX hl rfl rfl ?_
  intro X hl0 h hG hR
  have h : ch_H X E RX11 cX11_requireCell 2 := h
  show ch_W X E 2 S μ 0 0 0 [(0, .ref (S.1 15 11 0)), (1, .int x)] []
  refine ca_iload_n h dX11_requireCell_0 rfl ?_
  refine ca_if_lt (tgt := 15) h dX11_requireCell_1 (by decide) (fun c_1 => ?_) (fun c_1 => ?_)
  ·
    exact ca_throwN h hG hR ns_cls ns_ini (List.mem_of_getElem? (i := 5) rfl) ns_at ns_bad ns_13 ns_good dX11_requireCell_15 dX11_requireCell_18 dX11_requireCell_19 dX11_requireCell_21 dX11_requireCell_24 rfl rfl ⟨Nat.le_of_ble_eq_true rfl, Nat.le_of_ble_eq_true rfl⟩ ⟨rfl, rfl, rfl⟩
  ·
    refine ca_iload_n h dX11_requireCell_4 rfl ?_
    refine ca_aload_nr h dX11_requireCell_5 rfl ?_
    refine gs_X11_19 h hs (by show _ ∧ _; exact ⟨by first | assumption | rfl | omega, by first | assumption | rfl | omega⟩) dX11_requireCell_6 ?_
    refine gi_X11_90 h (hs.1 _ _ _ (by show _ ∧ _; exact ⟨by first | assumption | rfl | omega, by first | assumption | rfl | omega⟩)) dX11_requireCell_9 ?_
    refine ca_icmp_lt (tgt := 25) h dX11_requireCell_12 (by decide) (fun c_12 => ?_) (fun c_12 => ?_)
    ·
      exact absurd ⟨c_1, c_12⟩ hx
    ·
      exact ca_throwN h hG hR ns_cls ns_ini (List.mem_of_getElem? (i := 5) rfl) ns_at ns_bad ns_13 ns_good dX11_requireCell_15 dX11_requireCell_18 dX11_requireCell_19 dX11_requireCell_21 dX11_requireCell_24 rfl rfl ⟨Nat.le_of_ble_eq_true rfl, Nat.le_of_ble_eq_true rfl⟩ ⟨rfl, rfl, rfl⟩
set_option maxHeartbeats 100000 in
theorem c_X11_requireMobile {l : Launch} {E : ch_E} {S : ch_S} {μ : ch_M} (hs : ch_Std E S) {x : Int32} (hx : k_ism (μ 0) x) : ch_C E l yX11_requireMobile cX11_requireMobile 2 none 1 0 0 S μ [.ref (S.1 15 11 0), .int x] (ch_F none S (μ)) := by
  refine ch_enter rfl rfl ?_
  intro X hl0 h hG hR hnm
  have h : ch_H X E RX11 cX11_requireMobile 2 := h
  show ch_W X E 2 S μ 0 0 0 [(0, .ref (S.1 15 11 0)), (1, .int x)] []
  refine ca_iload_n h dX11_requireMobile_0 rfl ?_
  refine ca_if_lt (tgt := 15) h dX11_requireMobile_1 (by decide) (fun c_1 => ?_) (fun c_1 => ?_)
  · exact absurd c_1 hx.1
  ·
    refine ca_iload_n h dX11_requireMobile_4 rfl ?_
    refine ca_aload_nr h dX11_requireMobile_5 rfl ?_
    refine gs_X11_19 h hs (by show _ ∧ _; exact ⟨by first | assumption | rfl | omega, by first | assumption | rfl | omega⟩) dX11_requireMobile_6 ?_
    refine gi_X11_99 h (hs.1 _ _ _ (by show _ ∧ _; exact ⟨by first | assumption | rfl | omega, by first | assumption | rfl | omega⟩)) dX11_requireMobile_9 ?_
    refine ca_icmp_lt (tgt := 26) h dX11_requireMobile_12 (by decide) (fun c_12 => ?_) (fun c_12 => ?_)
    ·
      refine ca_vreturn h hR dX11_requireMobile_26 ?_
      exact ⟨rfl, rfl, rfl⟩
    · exact absurd hx.2 c_12
set_option maxHeartbeats 200000 in
theorem c_X11_requireMobile_t {l : Launch} {E : ch_E} {S : ch_S} {μ : ch_M} (hl : l.stackTraces = false) (hs : ch_Std E S) {x : Int32} (hx : ¬ k_ism (μ 0) x) : ch_CX E l yX11_requireMobile cX11_requireMobile 2 none 6 1 6 S μ [.ref (S.1 15 11 0), .int x] (ch_FT vy_ns S μ) := by
  refine ch_enterX hl rfl rfl ?_
  intro X hl0 h hG hR
  have h : ch_H X E RX11 cX11_requireMobile 2 := h
  show ch_W X E 2 S μ 0 0 0 [(0, .ref (S.1 15 11 0)), (1, .int x)] []
  refine ca_iload_n h dX11_requireMobile_0 rfl ?_
  refine ca_if_lt (tgt := 15) h dX11_requireMobile_1 (by decide) (fun c_1 => ?_) (fun c_1 => ?_)
  ·
    exact ca_throwNW h hG hR ns_cls ns_ini (List.mem_of_getElem? (i := 6) rfl) ns_at ns_bad ns_13 ns_good dX11_requireMobile_15 dX11_requireMobile_18 dX11_requireMobile_19 dX11_requireMobile_22 dX11_requireMobile_25 rfl rfl ⟨Nat.le_of_ble_eq_true rfl, Nat.le_of_ble_eq_true rfl⟩ ⟨rfl, rfl, rfl⟩
  ·
    refine ca_iload_n h dX11_requireMobile_4 rfl ?_
    refine ca_aload_nr h dX11_requireMobile_5 rfl ?_
    refine gs_X11_19 h hs (by show _ ∧ _; exact ⟨by first | assumption | rfl | omega, by first | assumption | rfl | omega⟩) dX11_requireMobile_6 ?_
    refine gi_X11_99 h (hs.1 _ _ _ (by show _ ∧ _; exact ⟨by first | assumption | rfl | omega, by first | assumption | rfl | omega⟩)) dX11_requireMobile_9 ?_
    refine ca_icmp_lt (tgt := 26) h dX11_requireMobile_12 (by decide) (fun c_12 => ?_) (fun c_12 => ?_)
    ·
      exact absurd ⟨c_1, c_12⟩ hx
    ·
      exact ca_throwNW h hG hR ns_cls ns_ini (List.mem_of_getElem? (i := 6) rfl) ns_at ns_bad ns_13 ns_good dX11_requireMobile_15 dX11_requireMobile_18 dX11_requireMobile_19 dX11_requireMobile_22 dX11_requireMobile_25 rfl rfl ⟨Nat.le_of_ble_eq_true rfl, Nat.le_of_ble_eq_true rfl⟩ ⟨rfl, rfl, rfl⟩
set_option maxHeartbeats 100000 in
theorem c_X11_requireIndex {l : Launch} {E : ch_E} {S : ch_S} {μ : ch_M} {x : Int32} (hx : ¬ x < 0) : ch_C E l yX11_requireIndex cX11_requireIndex 1 none 1 0 0 S μ [.int x] (ch_F none S (μ)) := by
  refine ch_enter rfl rfl ?_
  intro X hl0 h hG hR hnm
  have h : ch_H X E RX11 cX11_requireIndex 1 := h
  show ch_W X E 1 S μ 0 0 0 [(0, .int x)] []
  refine ca_iload_n h dX11_requireIndex_0 rfl ?_
  refine ca_if_ge (tgt := 15) h dX11_requireIndex_1 (by decide) (fun c_1 => ?_) (fun c_1 => ?_)
  ·
    refine ca_vreturn h hR dX11_requireIndex_15 ?_
    exact ⟨rfl, rfl, rfl⟩
  · exact absurd c_1 hx
set_option maxHeartbeats 200000 in
theorem c_X11_requireIndex_t {l : Launch} {E : ch_E} {S : ch_S} {μ : ch_M} (hl : l.stackTraces = false) {x : Int32} (hx : x < 0) : ch_CX E l yX11_requireIndex cX11_requireIndex 1 none 6 1 6 S μ [.int x] (ch_FT vy_ns S μ) := by
  refine ch_enterX hl rfl rfl ?_
  intro X hl0 h hG hR
  have h : ch_H X E RX11 cX11_requireIndex 1 := h
  show ch_W X E 1 S μ 0 0 0 [(0, .int x)] []
  refine ca_iload_n h dX11_requireIndex_0 rfl ?_
  refine ca_if_ge (tgt := 15) h dX11_requireIndex_1 (by decide) (fun c_1 => ?_) (fun c_1 => ?_)
  ·
    exact absurd hx c_1
  ·
    exact ca_throwNW h hG hR ns_cls ns_ini (List.mem_of_getElem? (i := 7) rfl) ns_at ns_bad ns_13 ns_good dX11_requireIndex_4 dX11_requireIndex_7 dX11_requireIndex_8 dX11_requireIndex_11 dX11_requireIndex_14 rfl rfl ⟨Nat.le_of_ble_eq_true rfl, Nat.le_of_ble_eq_true rfl⟩ ⟨rfl, rfl, rfl⟩
set_option maxHeartbeats 100000 in
theorem c_X11_requireRange {l : Launch} {E : ch_E} {S : ch_S} {μ : ch_M} {x lo hi : Int32} (hx : k_rg lo hi x) : ch_C E l yX11_requireRange cX11_requireRange 3 none 1 0 0 S μ [.int x, .int lo, .int hi] (ch_F none S (μ)) := by
  refine ch_enter rfl rfl ?_
  intro X hl0 h hG hR hnm
  have h : ch_H X E RX11 cX11_requireRange 3 := h
  show ch_W X E 3 S μ 0 0 0 [(0, .int x), (1, .int lo), (2, .int hi)] []
  refine ca_iload_n h dX11_requireRange_0 rfl ?_
  refine ca_iload_n h dX11_requireRange_1 rfl ?_
  refine ca_icmp_lt (tgt := 10) h dX11_requireRange_2 (by decide) (fun c_2 => ?_) (fun c_2 => ?_)
  · exact absurd c_2 hx.1
  ·
    refine ca_iload_n h dX11_requireRange_5 rfl ?_
    refine ca_iload_n h dX11_requireRange_6 rfl ?_
    refine ca_icmp_le (tgt := 21) h dX11_requireRange_7 (by decide) (fun c_7 => ?_) (fun c_7 => ?_)
    ·
      refine ca_vreturn h hR dX11_requireRange_21 ?_
      exact ⟨rfl, rfl, rfl⟩
    · exact absurd (by assumption) hx.2
set_option maxHeartbeats 200000 in
theorem c_X11_requireRange_t {l : Launch} {E : ch_E} {S : ch_S} {μ : ch_M} (hl : l.stackTraces = false) {x lo hi : Int32} (hx : ¬ k_rg lo hi x) : ch_CX E l yX11_requireRange cX11_requireRange 3 none 6 1 6 S μ [.int x, .int lo, .int hi] (ch_FT vy_ia S μ) := by
  refine ch_enterX hl rfl rfl ?_
  intro X hl0 h hG hR
  have h : ch_H X E RX11 cX11_requireRange 3 := h
  show ch_W X E 3 S μ 0 0 0 [(0, .int x), (1, .int lo), (2, .int hi)] []
  refine ca_iload_n h dX11_requireRange_0 rfl ?_
  refine ca_iload_n h dX11_requireRange_1 rfl ?_
  refine ca_icmp_lt (tgt := 10) h dX11_requireRange_2 (by decide) (fun c_2 => ?_) (fun c_2 => ?_)
  ·
    exact ca_throwA h hG hR (by decide +kernel) (by decide +kernel) ia_cls ia_ini (List.mem_of_getElem? (i := 0) rfl) ia_at ia_bad ia_good dX11_requireRange_10 dX11_requireRange_13 dX11_requireRange_14 dX11_requireRange_17 dX11_requireRange_20 rfl (by decide) rfl ⟨Nat.le_of_ble_eq_true rfl, Nat.le_of_ble_eq_true rfl⟩ ⟨rfl, rfl, rfl⟩
  ·
    refine ca_iload_n h dX11_requireRange_5 rfl ?_
    refine ca_iload_n h dX11_requireRange_6 rfl ?_
    refine ca_icmp_le (tgt := 21) h dX11_requireRange_7 (by decide) (fun c_7 => ?_) (fun c_7 => ?_)
    ·
      exact absurd ⟨c_2, c_7⟩ hx
    ·
      exact ca_throwA h hG hR (by decide +kernel) (by decide +kernel) ia_cls ia_ini (List.mem_of_getElem? (i := 0) rfl) ia_at ia_bad ia_good dX11_requireRange_10 dX11_requireRange_13 dX11_requireRange_14 dX11_requireRange_17 dX11_requireRange_20 rfl (by decide) rfl ⟨Nat.le_of_ble_eq_true rfl, Nat.le_of_ble_eq_true rfl⟩ ⟨rfl, rfl, rfl⟩
