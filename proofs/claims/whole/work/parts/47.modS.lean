/-! THE REFERENCE'S PUBLIC CALLS that write: undo, snapshots, run, hangUp, velocities, hysteresis, forecast -/
theorem r_J_n {n sn tx : ch_N} {F : Int32} {u : Nat} {hst : Nat → ch_N} {p : ch_N} (h : r_J n sn tx F u hst p) : r_N n (p 23 0) := h.1
theorem r_A_wq {n n' sn tx : ch_N} {F t : Int32} {u : Nat} {hst : Nat → ch_N} {μ : ch_M} {p : ch_N} {a b w : Nat → Int32} {x : Int32} (h6 : p 22 0 6 = t) (hJ : r_J n sn tx F u hst p) (hN : r_N n' w) : ∃ p', r_wq (up μ 16 p) a b x w = up μ 16 p' ∧ p' 22 0 6 = t ∧ r_J n' sn tx F u hst p' := by
  refine ⟨r_wq (up μ 16 p) a b x w 16, (r_wq_up _ _ _ _ _).trans (up_up _ _ _ _), ?_, r_J_wq (μ := up μ 16 p) (by rw [up_s]; exact hJ) hN⟩
  rw [r_wq_16, na_k (by decide)]
  unfold r_pq
  rw [nw_at, if_neg (by omega), na_k (by decide), na_k (by decide), up_s, h6]
theorem r_A_wr {n n' sn tx : ch_N} {F t : Int32} {u : Nat} {hst : Nat → ch_N} {μ : ch_M} {p : ch_N} {w : Nat → Int32} (h6 : p 22 0 6 = t) (hJ : r_J n sn tx F u hst p) (hN : r_N n' w) : ∃ p', r_wr (up μ 16 p) w = up μ 16 p' ∧ p' 22 0 6 = t ∧ r_J n' sn tx F u hst p' := by
  rw [r_wq_wr]
  exact r_A_wq h6 hJ hN
theorem r_th_16 (μ : ch_M) (v : Int32) : r_th μ v 16 = nw (μ 16) 22 0 6 v := up_s _ _ _
theorem r_J_thm {n sn tx : ch_N} {F : Int32} {u : Nat} {hst : Nat → ch_N} {μ : ch_M} {v : Int32} (h : r_J n sn tx F u hst (μ 16)) : r_J n sn tx F u hst (r_th μ v 16) := by rw [r_th_16]; exact r_J_th h
theorem r_th_up (μ : ch_M) (v : Int32) (p : ch_N) : up (r_th μ v) 16 p = up μ 16 p := up_up _ _ _ _
theorem r_cm_16 (μ : ch_M) (kd a kd2 b k : Nat) : r_cm μ kd a kd2 b k = up μ 16 (na (μ 16) kd2 0 (r_cpy (μ 16 kd2 0) b (fun j => μ 16 kd 0 (1302 * a + j)) k)) := rfl
theorem r_cpy_r (w : Nat → Int32) (b : Nat) (f : Nat → Int32) {j : Nat} (hj : j < 1302) : r_cpy w b f 1302 (1302 * b + j) = f j := by
  unfold r_cpy; rw [if_pos (by omega), Nat.add_sub_cancel_left]
theorem r_cpy_r0 (w : Nat → Int32) (f : Nat → Int32) {j : Nat} (hj : j < 1302) : r_cpy w 0 f 1302 j = f j := by
  unfold r_cpy; rw [if_pos (by omega)]; congr 1
set_option maxHeartbeats 100000 in
theorem c_X12_undoCount {l : Launch} {E : ch_E} {S : ch_S} {μ : ch_M} (hs : ch_Std E S) {n sn tx : ch_N} {F : Int32} {u : Nat} {hst : Nat → ch_N} (hJ : r_J n sn tx F u hst (μ 16)) : ch_C E l yX12_undoCount cX12_undoCount 1 (some FieldType.int) 1 0 0 S μ [.ref (S.1 16 22 0)] (ch_F (some (.int (nI u))) S (r_th μ 0)) := by
  refine ch_enter rfl rfl ?_
  intro X hl0 h hG hR hnm
  have h : ch_H X E RX12 cX12_undoCount 1 := h
  obtain ⟨hN, ⟨b1, b2, b3⟩, ⟨c1, c2, c3⟩, hT⟩ := id hJ
  show ch_W X E 1 S μ 0 0 0 [(0, .ref (S.1 16 22 0))] []
  refine ca_aload_nr h dX12_undoCount_0 rfl ?_
  refine ca_iconst h dX12_undoCount_1 ik_0 ?_
  refine pi_X12_70 h (hs.1 _ _ _ ⟨rfl, rfl⟩) dX12_undoCount_2 ?_
  refine ca_mem (μ'' := r_th μ 0) rfl ?_
  refine ca_aload_nr h dX12_undoCount_5 rfl ?_
  refine gi_X12_270 h (hs.1 _ _ _ ⟨rfl, rfl⟩) dX12_undoCount_6 ?_
  rw [(show r_th μ 0 16 22 0 5 = nI u by rw [r_th_16, nw_at, if_neg (by omega), c1])]
  refine ca_ireturn h hR rfl dX12_undoCount_9 ?_
  exact ⟨rfl, rfl, rfl⟩
set_option maxHeartbeats 100000 in
theorem c_X12_undoN {l : Launch} {E : ch_E} {S : ch_S} {μ : ch_M} (hs : ch_Std E S) {n sn tx : ch_N} {F : Int32} {u : Nat} {hst : Nat → ch_N} (hJ : r_J n sn tx F u hst (μ 16)) (hu : u = 0) : ch_C E l yX12_undo cX12_undo 1 (some FieldType.int) 2 0 0 S μ [.ref (S.1 16 22 0)] (ch_F (some (.int (-1))) S (r_th μ 0)) := by
  refine ch_enter rfl rfl ?_
  intro X hl0 h hG hR hnm
  have h : ch_H X E RX12 cX12_undo 1 := h
  obtain ⟨hN, ⟨b1, b2, b3⟩, ⟨c1, c2, c3⟩, hT⟩ := id hJ
  show ch_W X E 1 S μ 0 0 0 [(0, .ref (S.1 16 22 0))] []
  refine ca_aload_nr h dX12_undo_0 rfl ?_
  refine ca_iconst h dX12_undo_1 ik_0 ?_
  refine pi_X12_70 h (hs.1 _ _ _ ⟨rfl, rfl⟩) dX12_undo_2 ?_
  refine ca_mem (μ'' := r_th μ 0) rfl ?_
  refine ca_aload_nr h dX12_undo_5 rfl ?_
  refine gi_X12_270 h (hs.1 _ _ _ ⟨rfl, rfl⟩) dX12_undo_6 ?_
  rw [(show r_th μ 0 16 22 0 5 = nI u by rw [r_th_16, nw_at, if_neg (by omega), c1])]
  refine ca_if_ne (tgt := 14) h dX12_undo_9 (by decide) (fun c_9 => ?_) (fun c_9 => ?_)
  · exact absurd (by rw [hu]; rfl) c_9
  ·
    refine ca_iconst h dX12_undo_12 ik_m1 ?_
    refine ca_ireturn h hR rfl dX12_undo_13 ?_
    exact ⟨rfl, rfl, rfl⟩
theorem r_J_mk2 {n n' sn tx : ch_N} {F : Int32} {u v : Nat} {hs : Nat → ch_N} {p p' : ch_N} (h : r_J n sn tx F u hs p) (hN : r_N n' (p' 23 0)) (e5 : p' 22 0 5 = nI v) (hv : v ≤ u) (e7 : p' 22 0 7 = p 22 0 7) (e12 : p' 22 0 12 = p 22 0 12) (e19 : p' 22 0 19 = p 22 0 19) (e26 : p' 26 0 = p 26 0) (e27 : p' 27 0 = p 27 0) (e30 : p' 30 0 = p 30 0) : r_J n' sn tx F v hs p' := by
  obtain ⟨-, ⟨b1, b2, b3⟩, ⟨c1, c2, c3⟩, ⟨L, d1, d2, d3, d4, d5⟩⟩ := h
  exact ⟨hN, ⟨by rw [e7]; exact b1, b2, fun z => by rw [e26]; exact b3 z⟩, ⟨e5, by omega, fun i hi => by rw [e27]; exact c3 i (by omega)⟩, ⟨L, d1, d2, by rw [e12]; exact d3, fun i hi => by rw [e30]; exact d4 i hi, by rw [e19]; exact d5⟩⟩
set_option maxHeartbeats 100000 in
theorem c_X12_undo {l : Launch} {E : ch_E} {S : ch_S} {μ : ch_M} (hs : ch_Std E S) {n sn tx : ch_N} {F : Int32} {u : Nat} {hst : Nat → ch_N} (hJ : r_J n sn tx F u hst (μ 16)) {v : Nat} (hu : u = v + 1) : ch_C E l yX12_undo cX12_undo 1 (some FieldType.int) 2 0 0 S μ [.ref (S.1 16 22 0)] (r_A (some (.int (nI v))) 0 (hst v) sn tx F v hst S μ) := by
  refine ch_enter rfl rfl ?_
  intro X hl0 h hG hR hnm
  have h : ch_H X E RX12 cX12_undo 1 := h
  subst hu
  obtain ⟨hN, ⟨b1, b2, b3⟩, ⟨c1, c2, c3⟩, hT⟩ := id hJ
  show ch_W X E 1 S μ 0 0 0 [(0, .ref (S.1 16 22 0))] []
  refine ca_aload_nr h dX12_undo_0 rfl ?_
  refine ca_iconst h dX12_undo_1 ik_0 ?_
  refine pi_X12_70 h (hs.1 _ _ _ ⟨rfl, rfl⟩) dX12_undo_2 ?_
  refine ca_mem (μ'' := r_th μ 0) rfl ?_
  refine ca_aload_nr h dX12_undo_5 rfl ?_
  refine gi_X12_270 h (hs.1 _ _ _ ⟨rfl, rfl⟩) dX12_undo_6 ?_
  rw [(show r_th μ 0 16 22 0 5 = nI (v + 1) by rw [r_th_16, nw_at, if_neg (by omega), c1])]
  refine ca_if_ne (tgt := 14) h dX12_undo_9 (by decide) (fun c_9 => ?_) (fun c_9 => ?_)
  ·
    refine ca_aload_nr h dX12_undo_14 rfl ?_
    refine ca_dup h dX12_undo_15 rfl ?_
    refine gi_X12_270 h (hs.1 _ _ _ ⟨rfl, rfl⟩) dX12_undo_16 ?_
    refine ca_iconst h dX12_undo_19 ik_1 ?_
    refine ca_isub h dX12_undo_20 ?_
    refine pi_X12_270 h (hs.1 _ _ _ ⟨rfl, rfl⟩) dX12_undo_21 ?_
    refine ca_mem (μ'' := up μ 16 (nw (nw (μ 16) 22 0 6 0) 22 0 5 (nI v))) (by rw [ch_st_nw, (show r_th μ 0 16 22 0 5 = nI (v + 1) by rw [r_th_16, nw_at, if_neg (by omega), c1]), nI_pred, r_th_16, r_th_up]) ?_
    refine ca_aload_nr h dX12_undo_24 rfl ?_
    refine gs_X12_22 h hs ⟨rfl, rfl⟩ dX12_undo_25 ?_
    refine ca_aload_nr h dX12_undo_28 rfl ?_
    refine gi_X12_270 h (hs.1 _ _ _ ⟨rfl, rfl⟩) dX12_undo_29 ?_
    refine ca_top (show _ = nI v by rw [up_s, nw_at, if_pos ⟨rfl, rfl, rfl⟩]) ?_
    refine ca_aload_nr h dX12_undo_32 rfl ?_
    refine gs_X12_9 h hs ⟨rfl, rfl⟩ dX12_undo_33 ?_
    refine ca_iconst h dX12_undo_36 ik_0 ?_
    refine ca_sv h hG ms_X12_266 (c_X12_copy (kd := 27) (kd2 := 23) (a := v) (b := 0) (hs.1 16 27 0 ⟨rfl, rfl⟩) (hs.1 16 23 0 ⟨rfl, rfl⟩) rfl rfl (by omega) (by omega) (by decide) (by decide) (Or.inl (by decide))) rfl rfl rfl rfl ⟨Nat.le_refl _, Nat.le_refl _⟩ rfl dX12_undo_37 ?_
    refine ca_aload_nr h dX12_undo_40 rfl ?_
    refine gi_X12_270 h (hs.1 _ _ _ ⟨rfl, rfl⟩) dX12_undo_41 ?_
    refine ca_top (show _ = nI v by rw [r_cm_16, up_s, up_s, na_k (by decide), nw_at, if_pos ⟨rfl, rfl, rfl⟩]) ?_
    refine ca_ireturn h hR rfl dX12_undo_44 ?_
    refine ⟨rfl, rfl, _, by rw [r_cm_16, up_up, up_s], by rw [na_k (by decide), nw_at, if_neg (by omega), nw_at, if_pos ⟨rfl, rfl, rfl⟩], r_J_mk2 hJ ?_ (by rw [na_k (by decide), nw_at, if_pos ⟨rfl, rfl, rfl⟩]) (by omega) (by rw [na_k (by decide), nw_at, if_neg (by omega), nw_at, if_neg (by omega)]) (by rw [na_k (by decide), nw_at, if_neg (by omega), nw_at, if_neg (by omega)]) (by rw [na_k (by decide), nw_at, if_neg (by omega), nw_at, if_neg (by omega)]) (by rw [na_k (by decide), nw_k (by decide), nw_k (by decide)]) (by rw [na_k (by decide), nw_k (by decide), nw_k (by decide)]) (by rw [na_k (by decide), nw_k (by decide), nw_k (by decide)])⟩
    rw [na_fn]
    refine r_N_row (c3 v (by omega)) (fun j hj => ?_)
    rw [r_cpy_r0 _ _ hj, nw_k (by decide), nw_k (by decide)]
  · exact absurd c_9 (nI_ne0 (Nat.succ_pos v) (by omega))
set_option maxHeartbeats 100000 in
theorem c_X12_saveSnapshot {l : Launch} {E : ch_E} {S : ch_S} {μ : ch_M} (hs : ch_Std E S) {n sn tx : ch_N} {F : Int32} {u : Nat} {hst : Nat → ch_N} (hJ : r_J n sn tx F u hst (μ 16)) : ch_C E l yX12_saveSnapshot cX12_saveSnapshot 1 none 2 0 0 S μ [.ref (S.1 16 22 0)] (r_A none 0 n n tx 1 u hst S μ) := by
  refine ch_enter rfl rfl ?_
  intro X hl0 h hG hR hnm
  have h : ch_H X E RX12 cX12_saveSnapshot 1 := h
  obtain ⟨hN, ⟨b1, b2, b3⟩, ⟨c1, c2, c3⟩, hT⟩ := id hJ
  show ch_W X E 1 S μ 0 0 0 [(0, .ref (S.1 16 22 0))] []
  refine ca_aload_nr h dX12_saveSnapshot_0 rfl ?_
  refine ca_iconst h dX12_saveSnapshot_1 ik_0 ?_
  refine pi_X12_70 h (hs.1 _ _ _ ⟨rfl, rfl⟩) dX12_saveSnapshot_2 ?_
  refine ca_mem (μ'' := r_th μ 0) rfl ?_
  refine ca_aload_nr h dX12_saveSnapshot_5 rfl ?_
  refine gs_X12_9 h hs ⟨rfl, rfl⟩ dX12_saveSnapshot_6 ?_
  refine ca_iconst h dX12_saveSnapshot_9 ik_0 ?_
  refine ca_aload_nr h dX12_saveSnapshot_10 rfl ?_
  refine gs_X12_19 h hs ⟨rfl, rfl⟩ dX12_saveSnapshot_11 ?_
  refine ca_iconst h dX12_saveSnapshot_14 ik_0 ?_
  refine ca_sv h hG ms_X12_266 (c_X12_copy (kd := 23) (kd2 := 26) (a := 0) (b := 0) (hs.1 16 23 0 ⟨rfl, rfl⟩) (hs.1 16 26 0 ⟨rfl, rfl⟩) rfl rfl (by omega) (by omega) (by decide) (by decide) (Or.inl (by decide))) rfl rfl rfl rfl ⟨Nat.le_refl _, Nat.le_refl _⟩ rfl dX12_saveSnapshot_15 ?_
  refine ca_aload_nr h dX12_saveSnapshot_18 rfl ?_
  refine ca_iconst h dX12_saveSnapshot_19 ik_1 ?_
  refine pi_X12_273 h (hs.1 _ _ _ ⟨rfl, rfl⟩) (by first | exact Or.inl rfl | exact Or.inr rfl | assumption) dX12_saveSnapshot_20 ?_
  refine ca_mem (μ'' := up μ 16 (nw (na (nw (μ 16) 22 0 6 0) 26 0 (r_cpy (μ 16 26 0) 0 (fun j => μ 16 23 0 (1302 * 0 + j)) 1302)) 22 0 7 1)) (by rw [ch_st_nw, r_cm_16, up_s, up_up, r_th_16, r_th_up, nw_k (by decide), nw_k (by decide)]) ?_
  refine ca_vreturn h hR dX12_saveSnapshot_23 ?_
  refine ⟨rfl, rfl, _, rfl, by rw [nw_at, if_neg (by omega), na_k (by decide), nw_at, if_pos ⟨rfl, rfl, rfl⟩], ?_, ⟨by rw [nw_at, if_pos ⟨rfl, rfl, rfl⟩], Or.inr rfl, fun _ => ?_⟩, ⟨by rw [nw_at, if_neg (by omega), na_k (by decide), nw_at, if_neg (by omega)]; exact c1, c2, fun i hi => ?_⟩, ?_⟩
  · rw [nw_k (by decide), na_k (by decide), nw_k (by decide)]; exact hN
  · rw [nw_k (by decide), na_fn]
    refine r_N_row hN (fun j hj => ?_)
    rw [r_cpy_r0 _ _ hj]
    congr 1
    omega
  · rw [nw_k (by decide), na_k (by decide), nw_k (by decide)]; exact c3 i hi
  · obtain ⟨L, d1, d2, d3, d4, d5⟩ := hT
    refine ⟨L, d1, d2, by rw [nw_at, if_neg (by omega), na_k (by decide), nw_at, if_neg (by omega)]; exact d3, fun i hi => ?_, by rw [nw_at, if_neg (by omega), na_k (by decide), nw_at, if_neg (by omega)]; exact d5⟩
    rw [nw_k (by decide), na_k (by decide), nw_k (by decide)]
    exact d4 i hi
set_option maxHeartbeats 100000 in
theorem c_X12_restoreSnapshotN {l : Launch} {E : ch_E} {S : ch_S} {μ : ch_M} (hs : ch_Std E S) {n sn tx : ch_N} {F : Int32} {u : Nat} {hst : Nat → ch_N} (hJ : r_J n sn tx F u hst (μ 16)) (hF : F = 0) : ch_C E l yX12_restoreSnapshot cX12_restoreSnapshot 1 (some FieldType.boolean) 2 0 0 S μ [.ref (S.1 16 22 0)] (ch_F (some (.int (0))) S (r_th μ 0)) := by
  refine ch_enter rfl rfl ?_
  intro X hl0 h hG hR hnm
  have h : ch_H X E RX12 cX12_restoreSnapshot 1 := h
  obtain ⟨hN, ⟨b1, b2, b3⟩, ⟨c1, c2, c3⟩, hT⟩ := id hJ
  show ch_W X E 1 S μ 0 0 0 [(0, .ref (S.1 16 22 0))] []
  refine ca_aload_nr h dX12_restoreSnapshot_0 rfl ?_
  refine ca_iconst h dX12_restoreSnapshot_1 ik_0 ?_
  refine pi_X12_70 h (hs.1 _ _ _ ⟨rfl, rfl⟩) dX12_restoreSnapshot_2 ?_
  refine ca_mem (μ'' := r_th μ 0) rfl ?_
  refine ca_aload_nr h dX12_restoreSnapshot_5 rfl ?_
  refine gi_X12_273 h (hs.1 _ _ _ ⟨rfl, rfl⟩) dX12_restoreSnapshot_6 ?_
  rw [(show r_th μ 0 16 22 0 7 = F by rw [r_th_16, nw_at, if_neg (by omega), b1])]
  refine ca_if_ne (tgt := 14) h dX12_restoreSnapshot_9 (by decide) (fun c_9 => ?_) (fun c_9 => ?_)
  · exact absurd hF c_9
  ·
    refine ca_iconst h dX12_restoreSnapshot_12 ik_0 ?_
    refine ca_ireturn h hR rfl dX12_restoreSnapshot_13 ?_
    exact ⟨rfl, rfl, rfl⟩
set_option maxHeartbeats 100000 in
theorem c_X12_restoreSnapshot {l : Launch} {E : ch_E} {S : ch_S} {μ : ch_M} (hs : ch_Std E S) {n sn tx : ch_N} {F : Int32} {u : Nat} {hst : Nat → ch_N} (hJ : r_J n sn tx F u hst (μ 16)) (hF : F = 1) : ch_C E l yX12_restoreSnapshot cX12_restoreSnapshot 1 (some FieldType.boolean) 2 0 0 S μ [.ref (S.1 16 22 0)] (r_A (some (.int 1)) 0 sn sn tx F 0 hst S μ) := by
  refine ch_enter rfl rfl ?_
  intro X hl0 h hG hR hnm
  have h : ch_H X E RX12 cX12_restoreSnapshot 1 := h
  obtain ⟨hN, ⟨b1, b2, b3⟩, ⟨c1, c2, c3⟩, hT⟩ := id hJ
  show ch_W X E 1 S μ 0 0 0 [(0, .ref (S.1 16 22 0))] []
  refine ca_aload_nr h dX12_restoreSnapshot_0 rfl ?_
  refine ca_iconst h dX12_restoreSnapshot_1 ik_0 ?_
  refine pi_X12_70 h (hs.1 _ _ _ ⟨rfl, rfl⟩) dX12_restoreSnapshot_2 ?_
  refine ca_mem (μ'' := r_th μ 0) rfl ?_
  refine ca_aload_nr h dX12_restoreSnapshot_5 rfl ?_
  refine gi_X12_273 h (hs.1 _ _ _ ⟨rfl, rfl⟩) dX12_restoreSnapshot_6 ?_
  rw [(show r_th μ 0 16 22 0 7 = F by rw [r_th_16, nw_at, if_neg (by omega), b1])]
  refine ca_if_ne (tgt := 14) h dX12_restoreSnapshot_9 (by decide) (fun c_9 => ?_) (fun c_9 => ?_)
  ·
    refine ca_aload_nr h dX12_restoreSnapshot_14 rfl ?_
    refine gs_X12_19 h hs ⟨rfl, rfl⟩ dX12_restoreSnapshot_15 ?_
    refine ca_iconst h dX12_restoreSnapshot_18 ik_0 ?_
    refine ca_aload_nr h dX12_restoreSnapshot_19 rfl ?_
    refine gs_X12_9 h hs ⟨rfl, rfl⟩ dX12_restoreSnapshot_20 ?_
    refine ca_iconst h dX12_restoreSnapshot_23 ik_0 ?_
    refine ca_sv h hG ms_X12_266 (c_X12_copy (kd := 26) (kd2 := 23) (a := 0) (b := 0) (hs.1 16 26 0 ⟨rfl, rfl⟩) (hs.1 16 23 0 ⟨rfl, rfl⟩) rfl rfl (by omega) (by omega) (by decide) (by decide) (Or.inl (by decide))) rfl rfl rfl rfl ⟨Nat.le_refl _, Nat.le_refl _⟩ rfl dX12_restoreSnapshot_24 ?_
    refine ca_aload_nr h dX12_restoreSnapshot_27 rfl ?_
    refine ca_iconst h dX12_restoreSnapshot_28 ik_0 ?_
    refine pi_X12_270 h (hs.1 _ _ _ ⟨rfl, rfl⟩) dX12_restoreSnapshot_29 ?_
    refine ca_mem (μ'' := up μ 16 (nw (na (nw (μ 16) 22 0 6 0) 23 0 (r_cpy (μ 16 23 0) 0 (fun j => μ 16 26 0 (1302 * 0 + j)) 1302)) 22 0 5 0)) (by rw [ch_st_nw, r_cm_16, up_s, up_up, r_th_16, r_th_up, nw_k (by decide), nw_k (by decide)]) ?_
    refine ca_iconst h dX12_restoreSnapshot_32 ik_1 ?_
    refine ca_ireturn h hR rfl dX12_restoreSnapshot_33 ?_
    refine ⟨rfl, rfl, _, rfl, by rw [nw_at, if_neg (by omega), na_k (by decide), nw_at, if_pos ⟨rfl, rfl, rfl⟩], r_J_mk2 hJ ?_ (by rw [nw_at, if_pos ⟨rfl, rfl, rfl⟩]; rfl) (Nat.zero_le _) (by rw [nw_at, if_neg (by omega), na_k (by decide), nw_at, if_neg (by omega)]) (by rw [nw_at, if_neg (by omega), na_k (by decide), nw_at, if_neg (by omega)]) (by rw [nw_at, if_neg (by omega), na_k (by decide), nw_at, if_neg (by omega)]) (by rw [nw_k (by decide), na_k (by decide), nw_k (by decide)]) (by rw [nw_k (by decide), na_k (by decide), nw_k (by decide)]) (by rw [nw_k (by decide), na_k (by decide), nw_k (by decide)])⟩
    rw [nw_k (by decide), na_fn]
    refine r_N_row (b3 hF) (fun j hj => ?_)
    rw [r_cpy_r0 _ _ hj]
    congr 1
    omega
  · exact absurd c_9 (by rw [hF]; decide)
set_option maxHeartbeats 100000 in
theorem c_X12_run {l : Launch} {E : ch_E} {S : ch_S} {μ : ch_M} (hs : ch_Std E S) {n sn tx : ch_N} {F : Int32} {u : Nat} {hst : Nat → ch_N} (hJ : r_J n sn tx F u hst (μ 16)) {q : ch_N} {T c0 : Nat} (hT60 : T ≤ 60) (hc0 : n 0 0 3 = nI c0) (hcT : c0 + T ≤ 100000) : ch_C E l yX12_run cX12_run 3 (some FieldType.int) 9 0 0 S μ [.ref (S.1 16 22 0), .int (nI T)] (r_A (some (.int ((k_adv T (n, q)).1 7 0 0 - n 7 0 0))) 0 (k_adv T (n, q)).1 sn tx F (r_pu u) (r_ph hst u n) S μ) := by
  refine ch_enter rfl rfl ?_
  intro X hl0 h hG hR hnm
  have h : ch_H X E RX12 cX12_run 3 := h
  have hN := hJ.1
  show ch_W X E 3 S μ 0 0 0 [(0, .ref (S.1 16 22 0)), (1, .int (nI T))] []
  refine ca_aload_nr h dX12_run_0 rfl ?_
  refine ca_iconst h dX12_run_1 ik_0 ?_
  refine pi_X12_70 h (hs.1 _ _ _ ⟨rfl, rfl⟩) dX12_run_2 ?_
  refine ca_mem (μ'' := r_th μ 0) rfl ?_
  refine ca_aload_nr h dX12_run_5 rfl ?_
  refine ca_iload_n h dX12_run_6 rfl ?_
  refine ca_bipush h dX12_run_7 bk_60 ?_
  refine ca_vi h hG ml_X12_254 (c_X12_canRun hs (n := n) (by rw [r_th_23]; exact hN)) (ci := 12) rfl rfl rfl (hs.1 _ _ _ ⟨rfl, rfl⟩) rfl rfl rfl rfl ⟨Nat.le_refl _, Nat.le_refl _⟩ rfl dX12_run_9 ?_
  refine ca_if_ne (tgt := 21) h dX12_run_12 (by decide) (fun c_12 => ?_) (fun c_12 => ?_)
  ·
    refine ca_aload_nr h dX12_run_21 rfl ?_
    refine ca_vXv h hG ml_X12_173 (c_X12_record hs (n := n) (sn := sn) (tx := tx) (F := F) (u := u) (hst := hst) (r_J_thm hJ)) (ci := 12) rfl rfl rfl (hs.1 _ _ _ ⟨rfl, rfl⟩) rfl rfl rfl rfl ⟨Nat.le_refl _, Nat.le_refl _⟩ rfl dX12_run_22 ?_
    intro μ9 hμ9
    obtain ⟨p, rfl, h6, e23, hJ1⟩ := hμ9
    rw [r_th_up] 
    rw [r_th_16, nw_at, if_pos ⟨rfl, rfl, rfl⟩] at h6
    rw [r_th_23] at e23
    have hN1 : r_N n (up μ 16 p 16 23 0) := by rw [up_s, e23]; exact hN
    refine ca_aload_nr h dX12_run_25 rfl ?_
    refine gs_X12_9 h hs ⟨rfl, rfl⟩ dX12_run_26 ?_
    refine ca_bipush h dX12_run_29 bk_10 ?_
    refine ca_iald h rfl (hs.1 _ _ _ ⟨rfl, rfl⟩) (vp_in_nI (n := 10) (N := 1302) (by decide) (by decide)) dX12_run_31 ?_
    refine ca_top (show _ = n 7 0 0 by rw [up_s, e23]; exact hN.2.1.1 0 (by decide)) ?_
    refine ca_istore_n h dX12_run_32 rfl ?_
    refine ca_aload_nr h dX12_run_33 rfl ?_
    refine ca_iload_n h dX12_run_34 rfl ?_
    refine ca_vXv h hG ml_X12_257 (c_X12_pass hs (n := n) (q := q) hN1 (by omega) hc0 hcT) (ci := 12) rfl rfl rfl (hs.1 _ _ _ ⟨rfl, rfl⟩) rfl rfl rfl rfl ⟨Nat.le_refl _, Nat.le_refl _⟩ rfl dX12_run_35 ?_
    intro μ9 hμ9
    obtain ⟨a, b, x, w2, rfl, hNw⟩ := hμ9
    refine ca_aload_nr h dX12_run_38 rfl ?_
    refine gs_X12_9 h hs ⟨rfl, rfl⟩ dX12_run_39 ?_
    refine ca_bipush h dX12_run_42 bk_10 ?_
    refine ca_iald h rfl (hs.1 _ _ _ ⟨rfl, rfl⟩) (vp_in_nI (n := 10) (N := 1302) (by decide) (by decide)) dX12_run_44 ?_
    refine ca_top (show _ = (k_adv T (n, q)).1 7 0 0 by rw [r_wq_at]; exact hNw.2.1.1 0 (by decide)) ?_
    refine ca_iload_n h dX12_run_45 rfl ?_
    refine ca_isub h dX12_run_46 ?_
    refine ca_ireturn h hR rfl dX12_run_47 ?_
    exact ⟨rfl, rfl, r_A_wq h6 hJ1 hNw⟩
  · exact absurd (show ((¬ nI T < 0 ∧ ¬ 60 < nI T) ∧ ¬ 100000 < n 0 0 3 + nI T) from ⟨⟨nI_pos (by omega), nI_nlt (a := 60) (b := T) hT60 (by decide)⟩, by rw [hc0, nI_add]; exact r_gt (by omega)⟩) (of_decide_eq_false (bI_0.mp c_12))
set_option maxHeartbeats 100000 in
theorem c_X12_runN {l : Launch} {E : ch_E} {S : ch_S} {μ : ch_M} (hs : ch_Std E S) {n : ch_N} (hN : r_N n (μ 16 23 0)) {x : Int32} (hx : ¬ ((¬ x < 0 ∧ ¬ 60 < x) ∧ ¬ 100000 < n 0 0 3 + x)) : ch_C E l yX12_run cX12_run 3 (some FieldType.int) 9 0 0 S μ [.ref (S.1 16 22 0), .int x] (ch_F (some (.int (0))) S (r_th μ 1)) := by
  refine ch_enter rfl rfl ?_
  intro X hl0 h hG hR hnm
  have h : ch_H X E RX12 cX12_run 3 := h
  show ch_W X E 3 S μ 0 0 0 [(0, .ref (S.1 16 22 0)), (1, .int x)] []
  refine ca_aload_nr h dX12_run_0 rfl ?_
  refine ca_iconst h dX12_run_1 ik_0 ?_
  refine pi_X12_70 h (hs.1 _ _ _ ⟨rfl, rfl⟩) dX12_run_2 ?_
  refine ca_mem (μ'' := r_th μ 0) rfl ?_
  refine ca_aload_nr h dX12_run_5 rfl ?_
  refine ca_iload_n h dX12_run_6 rfl ?_
  refine ca_bipush h dX12_run_7 bk_60 ?_
  refine ca_vi h hG ml_X12_254 (c_X12_canRun hs (n := n) (by rw [r_th_23]; exact hN)) (ci := 12) rfl rfl rfl (hs.1 _ _ _ ⟨rfl, rfl⟩) rfl rfl rfl rfl ⟨Nat.le_refl _, Nat.le_refl _⟩ rfl dX12_run_9 ?_
  refine ca_if_ne (tgt := 21) h dX12_run_12 (by decide) (fun c_12 => ?_) (fun c_12 => ?_)
  · exact absurd (of_decide_eq_true (bI_n0.mp c_12)) hx
  ·
    refine ca_aload_nr h dX12_run_15 rfl ?_
    refine ca_iconst h dX12_run_16 ik_1 ?_
    refine ca_vi h hG ml_X12_108 (c_X12_raise hs) (ci := 12) rfl rfl rfl (hs.1 _ _ _ ⟨rfl, rfl⟩) rfl rfl rfl rfl ⟨Nat.le_refl _, Nat.le_refl _⟩ rfl dX12_run_17 ?_
    refine ca_ireturn h hR rfl dX12_run_20 ?_
    exact ⟨rfl, rfl, by rw [r_th_th]⟩
