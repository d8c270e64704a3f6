/-! THE REFERENCE'S PUBLIC CALLS that write: hangUp, velocities, hysteresis, forecast -/
theorem r_th_r (μ : ch_M) (v : Int32) (p : ch_N) : up (r_th μ v) 16 p = up μ 16 p := up_up _ _ _ _
theorem r_put0 (μ : ch_M) (j : Nat) (v : Int32) : up μ 16 (nw (μ 16) 23 0 j v) = r_wr μ (up (μ 16 23 0) j v) := by have h := r_wr_put μ (μ 16 23 0) j v; rw [r_wr_id] at h; exact h
set_option maxHeartbeats 100000 in
theorem c_X12_hangUp {l : Launch} {E : ch_E} {S : ch_S} {μ : ch_M} (hs : ch_Std E S) {n sn tx : ch_N} {F : Int32} {u : Nat} {hst : Nat → ch_N} (hJ : r_J n sn tx F u hst (μ 16)) {m : Nat} (hm : m < k_mc n) (h0 : ¬ n 3 m 4 = 0) : ch_C E l yX12_hangUp cX12_hangUp 3 (some FieldType.int) 4 0 0 S μ [.ref (S.1 16 22 0), .int (nI m)] (r_A (some (.int (n 3 m 4))) 0 (k_idle n m) sn tx F (r_pu u) (r_ph hst u n) S μ) := by
  refine ch_enter rfl rfl ?_
  intro X hl0 h hG hR hnm
  have h : ch_H X E RX12 cX12_hangUp 3 := h
  have hN := hJ.1
  have hm12 := r_m12 hN hm
  show ch_W X E 3 S μ 0 0 0 [(0, .ref (S.1 16 22 0)), (1, .int (nI m))] []
  refine ca_aload_nr h dX12_hangUp_0 rfl ?_
  refine ca_iload_n h dX12_hangUp_1 rfl ?_
  refine ca_iconst h dX12_hangUp_2 ik_4 ?_
  refine ca_vi h hG ml_X12_192 (c_X12_tell hs hN (f := 4) hm (by decide)) (ci := 12) rfl rfl rfl (hs.1 _ _ _ ⟨rfl, rfl⟩) rfl rfl rfl rfl ⟨Nat.le_refl _, Nat.le_refl _⟩ rfl dX12_hangUp_3 ?_
  rw [r_f hN hm (f := 4) (by decide)]
  refine ca_istore_n h dX12_hangUp_6 rfl ?_
  refine ca_aload_nr h dX12_hangUp_7 rfl ?_
  refine gi_X12_70 h (hs.1 _ _ _ ⟨rfl, rfl⟩) dX12_hangUp_8 ?_
  refine ca_top (r_th_6 μ 0) ?_
  refine ca_if_le (tgt := 16) h dX12_hangUp_11 (by decide) (fun c_11 => ?_) (fun c_11 => ?_)
  ·
    refine ca_iload_n h dX12_hangUp_16 rfl ?_
    refine ca_if_ne (tgt := 23) h dX12_hangUp_17 (by decide) (fun c_17 => ?_) (fun c_17 => ?_)
    ·
      refine ca_aload_nr h dX12_hangUp_23 rfl ?_
      refine ca_vXv h hG ml_X12_173 (c_X12_record hs (n := n) (sn := sn) (tx := tx) (F := F) (u := u) (hst := hst) (r_J_thm hJ)) (ci := 12) rfl rfl rfl (hs.1 _ _ _ ⟨rfl, rfl⟩) rfl rfl rfl rfl ⟨Nat.le_refl _, Nat.le_refl _⟩ rfl dX12_hangUp_24 ?_
      intro μ9 hμ9
      obtain ⟨p, rfl, h6, e23, hJ1⟩ := hμ9
      rw [r_th_up] 
      rw [r_th_16, nw_at, if_pos ⟨rfl, rfl, rfl⟩] at h6
      rw [r_th_23] at e23
      have hN1 : r_N n (up μ 16 p 16 23 0) := by rw [up_s, e23]; exact hN
      refine ca_aload_nr h dX12_hangUp_27 rfl ?_
      refine ca_iload_n h dX12_hangUp_28 rfl ?_
      refine ca_vv h hG ml_X12_195 (c_X12_end hs hm12) (ci := 12) rfl rfl rfl (hs.1 _ _ _ ⟨rfl, rfl⟩) rfl rfl rfl rfl ⟨Nat.le_refl _, Nat.le_refl _⟩ rfl dX12_hangUp_29 ?_
      refine ca_iload_n h dX12_hangUp_32 rfl ?_
      refine ca_ireturn h hR rfl dX12_hangUp_33 ?_
      exact ⟨rfl, rfl, r_A_wr h6 hJ1 (r_N_end hN1 hm)⟩
    · exact absurd c_17 h0
  · exact absurd c_11 (by decide)
set_option maxHeartbeats 100000 in
theorem c_X12_hangUpI {l : Launch} {E : ch_E} {S : ch_S} {μ : ch_M} (hs : ch_Std E S) {n : ch_N} (hN : r_N n (μ 16 23 0)) {m : Nat} (hm : m < k_mc n) (h0 : n 3 m 4 = 0) : ch_C E l yX12_hangUp cX12_hangUp 3 (some FieldType.int) 4 0 0 S μ [.ref (S.1 16 22 0), .int (nI m)] (ch_F (some (.int (-2))) S (r_th μ 0)) := by
  refine ch_enter rfl rfl ?_
  intro X hl0 h hG hR hnm
  have h : ch_H X E RX12 cX12_hangUp 3 := h
  show ch_W X E 3 S μ 0 0 0 [(0, .ref (S.1 16 22 0)), (1, .int (nI m))] []
  refine ca_aload_nr h dX12_hangUp_0 rfl ?_
  refine ca_iload_n h dX12_hangUp_1 rfl ?_
  refine ca_iconst h dX12_hangUp_2 ik_4 ?_
  refine ca_vi h hG ml_X12_192 (c_X12_tell hs hN (f := 4) hm (by decide)) (ci := 12) rfl rfl rfl (hs.1 _ _ _ ⟨rfl, rfl⟩) rfl rfl rfl rfl ⟨Nat.le_refl _, Nat.le_refl _⟩ rfl dX12_hangUp_3 ?_
  rw [r_f hN hm (f := 4) (by decide)]
  refine ca_istore_n h dX12_hangUp_6 rfl ?_
  refine ca_aload_nr h dX12_hangUp_7 rfl ?_
  refine gi_X12_70 h (hs.1 _ _ _ ⟨rfl, rfl⟩) dX12_hangUp_8 ?_
  refine ca_top (r_th_6 μ 0) ?_
  refine ca_if_le (tgt := 16) h dX12_hangUp_11 (by decide) (fun c_11 => ?_) (fun c_11 => ?_)
  ·
    refine ca_iload_n h dX12_hangUp_16 rfl ?_
    refine ca_if_ne (tgt := 23) h dX12_hangUp_17 (by decide) (fun c_17 => ?_) (fun c_17 => ?_)
    ·
      exact absurd h0 c_17
    ·
      refine ca_bipush h dX12_hangUp_20 bk_m2 ?_
      refine ca_ireturn h hR rfl dX12_hangUp_22 ?_
      exact ⟨rfl, rfl, rfl⟩
  · exact absurd c_11 (by decide)
set_option maxHeartbeats 100000 in
theorem c_X12_hangUpN {l : Launch} {E : ch_E} {S : ch_S} {μ : ch_M} (hs : ch_Std E S) {n : ch_N} (hN : r_N n (μ 16 23 0)) {x : Int32} (hx : ¬ ∃ m, m < k_mc n ∧ x = nI m) : ch_C E l yX12_hangUp cX12_hangUp 3 (some FieldType.int) 4 0 0 S μ [.ref (S.1 16 22 0), .int x] (ch_F (some (.int (0))) S (r_th μ 1)) := by
  refine ch_enter rfl rfl ?_
  intro X hl0 h hG hR hnm
  have h : ch_H X E RX12 cX12_hangUp 3 := h
  show ch_W X E 3 S μ 0 0 0 [(0, .ref (S.1 16 22 0)), (1, .int x)] []
  refine ca_aload_nr h dX12_hangUp_0 rfl ?_
  refine ca_iload_n h dX12_hangUp_1 rfl ?_
  refine ca_iconst h dX12_hangUp_2 ik_4 ?_
  refine ca_vi h hG ml_X12_192 (c_X12_tellN hs hN hx) (ci := 12) rfl rfl rfl (hs.1 _ _ _ ⟨rfl, rfl⟩) rfl rfl rfl rfl ⟨Nat.le_refl _, Nat.le_refl _⟩ rfl dX12_hangUp_3 ?_
  refine ca_istore_n h dX12_hangUp_6 rfl ?_
  refine ca_aload_nr h dX12_hangUp_7 rfl ?_
  refine gi_X12_70 h (hs.1 _ _ _ ⟨rfl, rfl⟩) dX12_hangUp_8 ?_
  refine ca_top (r_th_6 μ 1) ?_
  refine ca_if_le (tgt := 16) h dX12_hangUp_11 (by decide) (fun c_11 => ?_) (fun c_11 => ?_)
  · exact absurd (show (0 : Int32) < 1 by decide) c_11
  ·
    refine ca_iconst h dX12_hangUp_14 ik_0 ?_
    refine ca_ireturn h hR rfl dX12_hangUp_15 ?_
    exact ⟨rfl, rfl, rfl⟩
set_option maxHeartbeats 100000 in
theorem c_X12_setVelocity {l : Launch} {E : ch_E} {S : ch_S} {μ : ch_M} (hs : ch_Std E S) {n sn tx : ch_N} {F : Int32} {u : Nat} {hst : Nat → ch_N} (hJ : r_J n sn tx F u hst (μ 16)) {m : Nat} (hm : m < k_mc n) {vx vy : Int32} (hvx : ¬ vx < -99 ∧ ¬ 99 < vx) (hvy : ¬ vy < -99 ∧ ¬ 99 < vy) : ch_C E l yX12_setVelocity cX12_setVelocity 5 (some FieldType.int) 4 0 0 S μ [.ref (S.1 16 22 0), .int (nI m), .int vx, .int vy] (r_A (some (.int (n 3 m 4))) 0 (nw (nw n 3 m 2 vx) 3 m 3 vy) sn tx F (r_pu u) (r_ph hst u n) S μ) := by
  refine ch_enter rfl rfl ?_
  intro X hl0 h hG hR hnm
  have h : ch_H X E RX12 cX12_setVelocity 5 := h
  have hN := hJ.1
  have hm12 := r_m12 hN hm
  show ch_W X E 5 S μ 0 0 0 [(0, .ref (S.1 16 22 0)), (1, .int (nI m)), (2, .int vx), (3, .int vy)] []
  refine ca_aload_nr h dX12_setVelocity_0 rfl ?_
  refine ca_iload_n h dX12_setVelocity_1 rfl ?_
  refine ca_iconst h dX12_setVelocity_2 ik_4 ?_
  refine ca_vi h hG ml_X12_192 (c_X12_tell hs hN (f := 4) hm (by decide)) (ci := 12) rfl rfl rfl (hs.1 _ _ _ ⟨rfl, rfl⟩) rfl rfl rfl rfl ⟨Nat.le_refl _, Nat.le_refl _⟩ rfl dX12_setVelocity_3 ?_
  rw [r_f hN hm (f := 4) (by decide)]
  refine ca_istore h dX12_setVelocity_6 rfl ?_
  refine ca_aload_nr h dX12_setVelocity_8 rfl ?_
  refine gi_X12_70 h (hs.1 _ _ _ ⟨rfl, rfl⟩) dX12_setVelocity_9 ?_
  refine ca_top (r_th_6 μ 0) ?_
  refine ca_if_le (tgt := 17) h dX12_setVelocity_12 (by decide) (fun c_12 => ?_) (fun c_12 => ?_)
  ·
    refine ca_iload_n h dX12_setVelocity_17 rfl ?_
    refine ca_si h hG ms_X12_260 (c_X12_isSpeed) rfl rfl rfl rfl ⟨Nat.le_refl _, Nat.le_refl _⟩ rfl dX12_setVelocity_18 ?_
    refine ca_if_eq (tgt := 31) h dX12_setVelocity_21 (by decide) (fun c_21 => ?_) (fun c_21 => ?_)
    · exact absurd hvx (of_decide_eq_false (bI_0.mp c_21))
    ·
      refine ca_iload_n h dX12_setVelocity_24 rfl ?_
      refine ca_si h hG ms_X12_260 (c_X12_isSpeed) rfl rfl rfl rfl ⟨Nat.le_refl _, Nat.le_refl _⟩ rfl dX12_setVelocity_25 ?_
      refine ca_if_ne (tgt := 37) h dX12_setVelocity_28 (by decide) (fun c_28 => ?_) (fun c_28 => ?_)
      ·
        refine ca_aload_nr h dX12_setVelocity_37 rfl ?_
        refine ca_vXv h hG ml_X12_173 (c_X12_record hs (n := n) (sn := sn) (tx := tx) (F := F) (u := u) (hst := hst) (r_J_thm hJ)) (ci := 12) rfl rfl rfl (hs.1 _ _ _ ⟨rfl, rfl⟩) rfl rfl rfl rfl ⟨Nat.le_refl _, Nat.le_refl _⟩ rfl dX12_setVelocity_38 ?_
        intro μ9 hμ9
        obtain ⟨p, rfl, h6, e23, hJ1⟩ := hμ9
        rw [r_th_up] 
        rw [r_th_16, nw_at, if_pos ⟨rfl, rfl, rfl⟩] at h6
        rw [r_th_23] at e23
        have hN1 : r_N n (up μ 16 p 16 23 0) := by rw [up_s, e23]; exact hN
        refine ca_mem (r_wr_id _).symm ?_
        refine ca_aload_nr h dX12_setVelocity_41 rfl ?_
        refine ca_iload_n h dX12_setVelocity_42 rfl ?_
        refine ca_iconst h dX12_setVelocity_43 ik_2 ?_
        refine ca_iload_n h dX12_setVelocity_44 rfl ?_
        refine ca_vv h hG ml_X12_147 (c_X12_put hs (f := 2) (by omega) (by decide)) (ci := 12) rfl rfl rfl (hs.1 _ _ _ ⟨rfl, rfl⟩) rfl rfl rfl rfl ⟨Nat.le_refl _, Nat.le_refl _⟩ rfl dX12_setVelocity_45 ?_
        refine ca_aload_nr h dX12_setVelocity_48 rfl ?_
        refine ca_iload_n h dX12_setVelocity_49 rfl ?_
        refine ca_iconst h dX12_setVelocity_50 ik_3 ?_
        refine ca_iload_n h dX12_setVelocity_51 rfl ?_
        refine ca_vv h hG ml_X12_147 (c_X12_put hs (f := 3) (by omega) (by decide)) (ci := 12) rfl rfl rfl (hs.1 _ _ _ ⟨rfl, rfl⟩) rfl rfl rfl rfl ⟨Nat.le_refl _, Nat.le_refl _⟩ rfl dX12_setVelocity_52 ?_
        refine ca_mem (μ'' := r_wr (up μ 16 p) (up (up (up μ 16 p 16 23 0) (210 + 91 * m + 2) vx) (210 + 91 * m + 3) vy)) (by simp only [r_wr_put, r_wr_at, r_wr_wr]) ?_
        refine ca_iload h dX12_setVelocity_55 rfl ?_
        refine ca_ireturn h hR rfl dX12_setVelocity_57 ?_
        exact ⟨rfl, rfl, r_A_wr h6 hJ1 (r_N_set (f := 3) (r_N_set (f := 2) hN1 hm (by omega) (fun z => by omega) (fun z => by omega)) (by rw [r_mc0 (nw_k (by decide))]; exact hm) (by omega) (fun z => by omega) (fun z => by omega))⟩
      · exact absurd hvy (of_decide_eq_false (bI_0.mp c_28))
  · exact absurd c_12 (by decide)
set_option maxHeartbeats 100000 in
theorem c_X12_setVelocityR {l : Launch} {E : ch_E} {S : ch_S} {μ : ch_M} (hs : ch_Std E S) {n : ch_N} (hN : r_N n (μ 16 23 0)) {m : Nat} (hm : m < k_mc n) {vx vy : Int32} (hv : ¬ ((¬ vx < -99 ∧ ¬ 99 < vx) ∧ (¬ vy < -99 ∧ ¬ 99 < vy))) : ch_C E l yX12_setVelocity cX12_setVelocity 5 (some FieldType.int) 4 0 0 S μ [.ref (S.1 16 22 0), .int (nI m), .int vx, .int vy] (ch_F (some (.int (0))) S (r_th μ 2)) := by
  refine ch_enter rfl rfl ?_
  intro X hl0 h hG hR hnm
  have h : ch_H X E RX12 cX12_setVelocity 5 := h
  show ch_W X E 5 S μ 0 0 0 [(0, .ref (S.1 16 22 0)), (1, .int (nI m)), (2, .int vx), (3, .int vy)] []
  refine ca_aload_nr h dX12_setVelocity_0 rfl ?_
  refine ca_iload_n h dX12_setVelocity_1 rfl ?_
  refine ca_iconst h dX12_setVelocity_2 ik_4 ?_
  refine ca_vi h hG ml_X12_192 (c_X12_tell hs hN (f := 4) hm (by decide)) (ci := 12) rfl rfl rfl (hs.1 _ _ _ ⟨rfl, rfl⟩) rfl rfl rfl rfl ⟨Nat.le_refl _, Nat.le_refl _⟩ rfl dX12_setVelocity_3 ?_
  refine ca_istore h dX12_setVelocity_6 rfl ?_
  refine ca_aload_nr h dX12_setVelocity_8 rfl ?_
  refine gi_X12_70 h (hs.1 _ _ _ ⟨rfl, rfl⟩) dX12_setVelocity_9 ?_
  refine ca_top (r_th_6 μ 0) ?_
  refine ca_if_le (tgt := 17) h dX12_setVelocity_12 (by decide) (fun c_12 => ?_) (fun c_12 => ?_)
  ·
    refine ca_iload_n h dX12_setVelocity_17 rfl ?_
    refine ca_si h hG ms_X12_260 (c_X12_isSpeed) rfl rfl rfl rfl ⟨Nat.le_refl _, Nat.le_refl _⟩ rfl dX12_setVelocity_18 ?_
    refine ca_if_eq (tgt := 31) h dX12_setVelocity_21 (by decide) (fun c_21 => ?_) (fun c_21 => ?_)
    ·
      refine ca_aload_nr h dX12_setVelocity_31 rfl ?_
      refine ca_iconst h dX12_setVelocity_32 ik_2 ?_
      refine ca_vi h hG ml_X12_108 (c_X12_raise hs) (ci := 12) rfl rfl rfl (hs.1 _ _ _ ⟨rfl, rfl⟩) rfl rfl rfl rfl ⟨Nat.le_refl _, Nat.le_refl _⟩ rfl dX12_setVelocity_33 ?_
      refine ca_ireturn h hR rfl dX12_setVelocity_36 ?_
      exact ⟨rfl, rfl, by rw [r_th_th]⟩
    ·
      refine ca_iload_n h dX12_setVelocity_24 rfl ?_
      refine ca_si h hG ms_X12_260 (c_X12_isSpeed) rfl rfl rfl rfl ⟨Nat.le_refl _, Nat.le_refl _⟩ rfl dX12_setVelocity_25 ?_
      refine ca_if_ne (tgt := 37) h dX12_setVelocity_28 (by decide) (fun c_28 => ?_) (fun c_28 => ?_)
      ·
        exact absurd ⟨of_decide_eq_true (bI_n0.mp c_21), of_decide_eq_true (bI_n0.mp c_28)⟩ hv
      ·
        refine ca_aload_nr h dX12_setVelocity_31 rfl ?_
        refine ca_iconst h dX12_setVelocity_32 ik_2 ?_
        refine ca_vi h hG ml_X12_108 (c_X12_raise hs) (ci := 12) rfl rfl rfl (hs.1 _ _ _ ⟨rfl, rfl⟩) rfl rfl rfl rfl ⟨Nat.le_refl _, Nat.le_refl _⟩ rfl dX12_setVelocity_33 ?_
        refine ca_ireturn h hR rfl dX12_setVelocity_36 ?_
        exact ⟨rfl, rfl, by rw [r_th_th]⟩
  · exact absurd c_12 (by decide)
set_option maxHeartbeats 100000 in
theorem c_X12_setVelocityN {l : Launch} {E : ch_E} {S : ch_S} {μ : ch_M} (hs : ch_Std E S) {n : ch_N} (hN : r_N n (μ 16 23 0)) {x : Int32} (hx : ¬ ∃ m, m < k_mc n ∧ x = nI m) {vx vy : Int32} : ch_C E l yX12_setVelocity cX12_setVelocity 5 (some FieldType.int) 4 0 0 S μ [.ref (S.1 16 22 0), .int x, .int vx, .int vy] (ch_F (some (.int (0))) S (r_th μ 1)) := by
  refine ch_enter rfl rfl ?_
  intro X hl0 h hG hR hnm
  have h : ch_H X E RX12 cX12_setVelocity 5 := h
  show ch_W X E 5 S μ 0 0 0 [(0, .ref (S.1 16 22 0)), (1, .int x), (2, .int vx), (3, .int vy)] []
  refine ca_aload_nr h dX12_setVelocity_0 rfl ?_
  refine ca_iload_n h dX12_setVelocity_1 rfl ?_
  refine ca_iconst h dX12_setVelocity_2 ik_4 ?_
  refine ca_vi h hG ml_X12_192 (c_X12_tellN hs hN hx) (ci := 12) rfl rfl rfl (hs.1 _ _ _ ⟨rfl, rfl⟩) rfl rfl rfl rfl ⟨Nat.le_refl _, Nat.le_refl _⟩ rfl dX12_setVelocity_3 ?_
  refine ca_istore h dX12_setVelocity_6 rfl ?_
  refine ca_aload_nr h dX12_setVelocity_8 rfl ?_
  refine gi_X12_70 h (hs.1 _ _ _ ⟨rfl, rfl⟩) dX12_setVelocity_9 ?_
  refine ca_top (r_th_6 μ 1) ?_
  refine ca_if_le (tgt := 17) h dX12_setVelocity_12 (by decide) (fun c_12 => ?_) (fun c_12 => ?_)
  · exact absurd (show (0 : Int32) < 1 by decide) c_12
  ·
    refine ca_iconst h dX12_setVelocity_15 ik_0 ?_
    refine ca_ireturn h hR rfl dX12_setVelocity_16 ?_
    exact ⟨rfl, rfl, rfl⟩
set_option maxHeartbeats 100000 in
theorem c_X12_setHysteresis {l : Launch} {E : ch_E} {S : ch_S} {μ : ch_M} (hs : ch_Std E S) {n sn tx : ch_N} {F : Int32} {u : Nat} {hst : Nat → ch_N} (hJ : r_J n sn tx F u hst (μ 16)) {a b : Nat} (ha : a < k_cc n) (hb : b < k_cc n) {v : Int32} (hv : ¬ v < 0 ∧ ¬ 30 < v) (hex : ¬ n 2 (8 * a + b) 0 = 0) (hne : ¬ n 2 (8 * a + b) 1 = -2) : ch_C E l yX12_setHysteresis cX12_setHysteresis 5 (some FieldType.int) 4 0 0 S μ [.ref (S.1 16 22 0), .int (nI a), .int (nI b), .int v] (r_A (some (.int (n 2 (8 * a + b) 1))) 0 (nw n 2 (8 * a + b) 1 v) sn tx F (r_pu u) (r_ph hst u n) S μ) := by
  refine ch_enter rfl rfl ?_
  intro X hl0 h hG hR hnm
  have h : ch_H X E RX12 cX12_setHysteresis 5 := h
  have hN := hJ.1
  have ha8 := r_c8 hN ha
  have hb8 := r_c8 hN hb
  show ch_W X E 5 S μ 0 0 0 [(0, .ref (S.1 16 22 0)), (1, .int (nI a)), (2, .int (nI b)), (3, .int v)] []
  refine ca_aload_nr h dX12_setHysteresis_0 rfl ?_
  refine ca_iload_n h dX12_setHysteresis_1 rfl ?_
  refine ca_iload_n h dX12_setHysteresis_2 rfl ?_
  refine ca_iconst h dX12_setHysteresis_3 ik_2 ?_
  refine ca_bipush h dX12_setHysteresis_4 bk_m2 ?_
  refine ca_vi h hG ml_X12_131 (c_X12_tellRelation hs hN ha hb (f := 0) (v := -2) (by decide)) (ci := 12) rfl rfl rfl (hs.1 _ _ _ ⟨rfl, rfl⟩) rfl rfl rfl rfl ⟨Nat.le_refl _, Nat.le_refl _⟩ rfl dX12_setHysteresis_6 ?_
  rw [if_neg hex]
  refine ca_istore h dX12_setHysteresis_9 rfl ?_
  refine ca_aload_nr h dX12_setHysteresis_11 rfl ?_
  refine gi_X12_70 h (hs.1 _ _ _ ⟨rfl, rfl⟩) dX12_setHysteresis_12 ?_
  refine ca_top (r_th_6 μ 0) ?_
  refine ca_if_le (tgt := 20) h dX12_setHysteresis_15 (by decide) (fun c_15 => ?_) (fun c_15 => ?_)
  ·
    refine ca_iload_n h dX12_setHysteresis_20 rfl ?_
    refine ca_iconst h dX12_setHysteresis_21 ik_0 ?_
    refine ca_bipush h dX12_setHysteresis_22 bk_30 ?_
    refine ca_si h hG ms_X12_73 (c_X12_inRange) rfl rfl rfl rfl ⟨Nat.le_refl _, Nat.le_refl _⟩ rfl dX12_setHysteresis_24 ?_
    refine ca_if_ne (tgt := 36) h dX12_setHysteresis_27 (by decide) (fun c_27 => ?_) (fun c_27 => ?_)
    ·
      refine ca_iload h dX12_setHysteresis_36 rfl ?_
      refine ca_bipush h dX12_setHysteresis_38 bk_m2 ?_
      refine ca_icmp_ne (tgt := 46) h dX12_setHysteresis_40 (by decide) (fun c_40 => ?_) (fun c_40 => ?_)
      ·
        refine ca_aload_nr h dX12_setHysteresis_46 rfl ?_
        refine ca_vXv h hG ml_X12_173 (c_X12_record hs (n := n) (sn := sn) (tx := tx) (F := F) (u := u) (hst := hst) (r_J_thm hJ)) (ci := 12) rfl rfl rfl (hs.1 _ _ _ ⟨rfl, rfl⟩) rfl rfl rfl rfl ⟨Nat.le_refl _, Nat.le_refl _⟩ rfl dX12_setHysteresis_47 ?_
        intro μ9 hμ9
        obtain ⟨p, rfl, h6, e23, hJ1⟩ := hμ9
        rw [r_th_up] 
        rw [r_th_16, nw_at, if_pos ⟨rfl, rfl, rfl⟩] at h6
        rw [r_th_23] at e23
        have hN1 : r_N n (up μ 16 p 16 23 0) := by rw [up_s, e23]; exact hN
        rcases r_find hN.2.2.2.1 ha8 hb8 hN.2.2.2.2.2.2.1 with ⟨-, z⟩ | ⟨r, hr, hr24, e1, e2, -, ea, eb, -⟩
        · exact absurd z hex
        refine ca_aload_nr h dX12_setHysteresis_50 rfl ?_
        refine gs_X12_9 h hs ⟨rfl, rfl⟩ dX12_setHysteresis_51 ?_
        refine ca_bipush h dX12_setHysteresis_54 bk_90 ?_
        refine ca_iconst h dX12_setHysteresis_56 ik_5 ?_
        refine ca_aload_nr h dX12_setHysteresis_57 rfl ?_
        refine ca_aload_nr h dX12_setHysteresis_58 rfl ?_
        refine gs_X12_9 h hs ⟨rfl, rfl⟩ dX12_setHysteresis_59 ?_
        refine ca_iload_n h dX12_setHysteresis_62 rfl ?_
        refine ca_iload_n h dX12_setHysteresis_63 rfl ?_
        refine ca_vi h hG ml_X12_81 (c_X12_relationOf hs (by rw [up_s, e23]; exact r_24 hN)) (ci := 12) rfl rfl rfl (hs.1 _ _ _ ⟨rfl, rfl⟩) rfl rfl rfl rfl ⟨Nat.le_refl _, Nat.le_refl _⟩ rfl dX12_setHysteresis_64 ?_
        rw [up_s, e23, e1]
        refine ca_imul h dX12_setHysteresis_67 ?_
        refine ca_iadd h dX12_setHysteresis_68 ?_
        refine ca_iconst h dX12_setHysteresis_69 ik_2 ?_
        refine ca_iadd h dX12_setHysteresis_70 ?_
        refine ca_top (show _ = nI (90 + 5 * r + 2) by rw [show (2 : Int32) = nI 2 from rfl, ix_r]) ?_
        refine ca_iload_n h dX12_setHysteresis_71 rfl ?_
        refine ca_iast h rfl (hs.1 _ _ _ ⟨rfl, rfl⟩) (vp_in_nI (by omega) (by decide)) dX12_setHysteresis_72 ?_
        refine ca_mem (μ'' := r_wr (up μ 16 p) (up (up μ 16 p 16 23 0) (90 + 5 * r + 2) v)) (by rw [ch_st_nw, nI_clamp (by omega), r_put0]) ?_
        refine ca_iload h dX12_setHysteresis_73 rfl ?_
        refine ca_ireturn h hR rfl dX12_setHysteresis_75 ?_
        refine ⟨rfl, rfl, r_A_wr h6 hJ1 ?_⟩
        exact r_N_rel (f := 1) hN1 ha8 hb8 (by rw [up_s, e23]; exact hr) (by rw [up_s, e23]; exact ea) (by rw [up_s, e23]; exact eb) (Or.inl rfl) hex
      · exact absurd c_40 hne
    · exact absurd hv (of_decide_eq_false (bI_0.mp c_27))
  · exact absurd c_15 (by decide)
set_option maxHeartbeats 100000 in
theorem c_X12_setHysteresisM {l : Launch} {E : ch_E} {S : ch_S} {μ : ch_M} (hs : ch_Std E S) {n : ch_N} (hN : r_N n (μ 16 23 0)) {a b : Nat} (ha : a < k_cc n) (hb : b < k_cc n) {v : Int32} (hv : ¬ v < 0 ∧ ¬ 30 < v) (hex : n 2 (8 * a + b) 0 = 0) : ch_C E l yX12_setHysteresis cX12_setHysteresis 5 (some FieldType.int) 4 0 0 S μ [.ref (S.1 16 22 0), .int (nI a), .int (nI b), .int v] (ch_F (some (.int (-2))) S (r_th μ 0)) := by
  refine ch_enter rfl rfl ?_
  intro X hl0 h hG hR hnm
  have h : ch_H X E RX12 cX12_setHysteresis 5 := h
  show ch_W X E 5 S μ 0 0 0 [(0, .ref (S.1 16 22 0)), (1, .int (nI a)), (2, .int (nI b)), (3, .int v)] []
  refine ca_aload_nr h dX12_setHysteresis_0 rfl ?_
  refine ca_iload_n h dX12_setHysteresis_1 rfl ?_
  refine ca_iload_n h dX12_setHysteresis_2 rfl ?_
  refine ca_iconst h dX12_setHysteresis_3 ik_2 ?_
  refine ca_bipush h dX12_setHysteresis_4 bk_m2 ?_
  refine ca_vi h hG ml_X12_131 (c_X12_tellRelation hs hN ha hb (f := 0) (v := -2) (by decide)) (ci := 12) rfl rfl rfl (hs.1 _ _ _ ⟨rfl, rfl⟩) rfl rfl rfl rfl ⟨Nat.le_refl _, Nat.le_refl _⟩ rfl dX12_setHysteresis_6 ?_
  rw [if_pos hex]
  refine ca_istore h dX12_setHysteresis_9 rfl ?_
  refine ca_aload_nr h dX12_setHysteresis_11 rfl ?_
  refine gi_X12_70 h (hs.1 _ _ _ ⟨rfl, rfl⟩) dX12_setHysteresis_12 ?_
  refine ca_top (r_th_6 μ 0) ?_
  refine ca_if_le (tgt := 20) h dX12_setHysteresis_15 (by decide) (fun c_15 => ?_) (fun c_15 => ?_)
  ·
    refine ca_iload_n h dX12_setHysteresis_20 rfl ?_
    refine ca_iconst h dX12_setHysteresis_21 ik_0 ?_
    refine ca_bipush h dX12_setHysteresis_22 bk_30 ?_
    refine ca_si h hG ms_X12_73 (c_X12_inRange) rfl rfl rfl rfl ⟨Nat.le_refl _, Nat.le_refl _⟩ rfl dX12_setHysteresis_24 ?_
    refine ca_if_ne (tgt := 36) h dX12_setHysteresis_27 (by decide) (fun c_27 => ?_) (fun c_27 => ?_)
    ·
      refine ca_iload h dX12_setHysteresis_36 rfl ?_
      refine ca_bipush h dX12_setHysteresis_38 bk_m2 ?_
      refine ca_icmp_ne (tgt := 46) h dX12_setHysteresis_40 (by decide) (fun c_40 => ?_) (fun c_40 => ?_)
      ·
        exact absurd rfl c_40
      ·
        refine ca_iload h dX12_setHysteresis_43 rfl ?_
        refine ca_ireturn h hR rfl dX12_setHysteresis_45 ?_
        exact ⟨rfl, rfl, rfl⟩
    · exact absurd hv (of_decide_eq_false (bI_0.mp c_27))
  · exact absurd c_15 (by decide)
set_option maxHeartbeats 100000 in
theorem c_X12_setHysteresisR {l : Launch} {E : ch_E} {S : ch_S} {μ : ch_M} (hs : ch_Std E S) {n : ch_N} (hN : r_N n (μ 16 23 0)) {a b : Nat} (ha : a < k_cc n) (hb : b < k_cc n) {v : Int32} (hv : ¬ (¬ v < 0 ∧ ¬ 30 < v)) : ch_C E l yX12_setHysteresis cX12_setHysteresis 5 (some FieldType.int) 4 0 0 S μ [.ref (S.1 16 22 0), .int (nI a), .int (nI b), .int v] (ch_F (some (.int (0))) S (r_th μ 2)) := by
  refine ch_enter rfl rfl ?_
  intro X hl0 h hG hR hnm
  have h : ch_H X E RX12 cX12_setHysteresis 5 := h
  show ch_W X E 5 S μ 0 0 0 [(0, .ref (S.1 16 22 0)), (1, .int (nI a)), (2, .int (nI b)), (3, .int v)] []
  refine ca_aload_nr h dX12_setHysteresis_0 rfl ?_
  refine ca_iload_n h dX12_setHysteresis_1 rfl ?_
  refine ca_iload_n h dX12_setHysteresis_2 rfl ?_
  refine ca_iconst h dX12_setHysteresis_3 ik_2 ?_
  refine ca_bipush h dX12_setHysteresis_4 bk_m2 ?_
  refine ca_vi h hG ml_X12_131 (c_X12_tellRelation hs hN ha hb (f := 0) (v := -2) (by decide)) (ci := 12) rfl rfl rfl (hs.1 _ _ _ ⟨rfl, rfl⟩) rfl rfl rfl rfl ⟨Nat.le_refl _, Nat.le_refl _⟩ rfl dX12_setHysteresis_6 ?_
  refine ca_istore h dX12_setHysteresis_9 rfl ?_
  refine ca_aload_nr h dX12_setHysteresis_11 rfl ?_
  refine gi_X12_70 h (hs.1 _ _ _ ⟨rfl, rfl⟩) dX12_setHysteresis_12 ?_
  refine ca_top (r_th_6 μ 0) ?_
  refine ca_if_le (tgt := 20) h dX12_setHysteresis_15 (by decide) (fun c_15 => ?_) (fun c_15 => ?_)
  ·
    refine ca_iload_n h dX12_setHysteresis_20 rfl ?_
    refine ca_iconst h dX12_setHysteresis_21 ik_0 ?_
    refine ca_bipush h dX12_setHysteresis_22 bk_30 ?_
    refine ca_si h hG ms_X12_73 (c_X12_inRange) rfl rfl rfl rfl ⟨Nat.le_refl _, Nat.le_refl _⟩ rfl dX12_setHysteresis_24 ?_
    refine ca_if_ne (tgt := 36) h dX12_setHysteresis_27 (by decide) (fun c_27 => ?_) (fun c_27 => ?_)
    · exact absurd (of_decide_eq_true (bI_n0.mp c_27)) hv
    ·
      refine ca_aload_nr h dX12_setHysteresis_30 rfl ?_
      refine ca_iconst h dX12_setHysteresis_31 ik_2 ?_
      refine ca_vi h hG ml_X12_108 (c_X12_raise hs) (ci := 12) rfl rfl rfl (hs.1 _ _ _ ⟨rfl, rfl⟩) rfl rfl rfl rfl ⟨Nat.le_refl _, Nat.le_refl _⟩ rfl dX12_setHysteresis_32 ?_
      refine ca_ireturn h hR rfl dX12_setHysteresis_35 ?_
      exact ⟨rfl, rfl, by rw [r_th_th]⟩
  · exact absurd c_15 (by decide)
set_option maxHeartbeats 100000 in
theorem c_X12_setHysteresisN {l : Launch} {E : ch_E} {S : ch_S} {μ : ch_M} (hs : ch_Std E S) {n : ch_N} (hN : r_N n (μ 16 23 0)) {x y : Int32} (hx : ¬ ((∃ c, c < k_cc n ∧ x = nI c) ∧ ∃ c, c < k_cc n ∧ y = nI c)) {v : Int32} : ch_C E l yX12_setHysteresis cX12_setHysteresis 5 (some FieldType.int) 4 0 0 S μ [.ref (S.1 16 22 0), .int x, .int y, .int v] (ch_F (some (.int (0))) S (r_th μ 1)) := by
  refine ch_enter rfl rfl ?_
  intro X hl0 h hG hR hnm
  have h : ch_H X E RX12 cX12_setHysteresis 5 := h
  show ch_W X E 5 S μ 0 0 0 [(0, .ref (S.1 16 22 0)), (1, .int x), (2, .int y), (3, .int v)] []
  refine ca_aload_nr h dX12_setHysteresis_0 rfl ?_
  refine ca_iload_n h dX12_setHysteresis_1 rfl ?_
  refine ca_iload_n h dX12_setHysteresis_2 rfl ?_
  refine ca_iconst h dX12_setHysteresis_3 ik_2 ?_
  refine ca_bipush h dX12_setHysteresis_4 bk_m2 ?_
  refine ca_vi h hG ml_X12_131 (c_X12_tellRelationN hs hN hx) (ci := 12) rfl rfl rfl (hs.1 _ _ _ ⟨rfl, rfl⟩) rfl rfl rfl rfl ⟨Nat.le_refl _, Nat.le_refl _⟩ rfl dX12_setHysteresis_6 ?_
  refine ca_istore h dX12_setHysteresis_9 rfl ?_
  refine ca_aload_nr h dX12_setHysteresis_11 rfl ?_
  refine gi_X12_70 h (hs.1 _ _ _ ⟨rfl, rfl⟩) dX12_setHysteresis_12 ?_
  refine ca_top (r_th_6 μ 1) ?_
  refine ca_if_le (tgt := 20) h dX12_setHysteresis_15 (by decide) (fun c_15 => ?_) (fun c_15 => ?_)
  · exact absurd (show (0 : Int32) < 1 by decide) c_15
  ·
    refine ca_iconst h dX12_setHysteresis_18 ik_0 ?_
    refine ca_ireturn h hR rfl dX12_setHysteresis_19 ?_
    exact ⟨rfl, rfl, rfl⟩
set_option maxHeartbeats 100000 in
theorem c_X12_forecastCell {l : Launch} {E : ch_E} {S : ch_S} {μ : ch_M} (hs : ch_Std E S) {n sn tx : ch_N} {F : Int32} {u : Nat} {hst : Nat → ch_N} (hJ : r_J n sn tx F u hst (μ 16)) {n1 q : ch_N} (hn1 : r_N n1 (μ 16 23 0)) {m T c0 : Nat} (hm : m < k_mc n) (hT60 : T ≤ 60) (hc0 : n 0 0 3 = nI c0) (hcT : c0 + T ≤ 100000) : ch_C E l yX12_forecastCell cX12_forecastCell 4 (some FieldType.int) 9 0 0 S μ [.ref (S.1 16 22 0), .int (nI m), .int (nI T)] (r_A (some (.int ((k_adv T (n1, q)).1 3 m 5))) 0 n sn tx F u hst S μ) := by
  refine ch_enter rfl rfl ?_
  intro X hl0 h hG hR hnm
  have h : ch_H X E RX12 cX12_forecastCell 4 := h
  have hN := hJ.1
  have hm12 := r_m12 hN hm
  have e13 : n1 0 0 3 = n 0 0 3 := by rw [← hn1.1 3 (by decide), hN.1 3 (by decide)]
  have emc : k_mc n1 = k_mc n := by rw [r_mc hN, r_mc hn1]
  show ch_W X E 4 S μ 0 0 0 [(0, .ref (S.1 16 22 0)), (1, .int (nI m)), (2, .int (nI T))] []
  refine ca_aload_nr h dX12_forecastCell_0 rfl ?_
  refine ca_iconst h dX12_forecastCell_1 ik_0 ?_
  refine pi_X12_70 h (hs.1 _ _ _ ⟨rfl, rfl⟩) dX12_forecastCell_2 ?_
  refine ca_mem (μ'' := r_th μ 0) rfl ?_
  refine ca_aload_nr h dX12_forecastCell_5 rfl ?_
  refine ca_iload_n h dX12_forecastCell_6 rfl ?_
  refine ca_vi h hG ml_X12_170 (c_X12_isMobile hs) (ci := 12) rfl rfl rfl (hs.1 _ _ _ ⟨rfl, rfl⟩) rfl rfl rfl rfl ⟨Nat.le_refl _, Nat.le_refl _⟩ rfl dX12_forecastCell_7 ?_
  refine ca_if_ne (tgt := 19) h dX12_forecastCell_10 (by decide) (fun c_10 => ?_) (fun c_10 => ?_)
  ·
    refine ca_aload_nr h dX12_forecastCell_19 rfl ?_
    refine ca_iload_n h dX12_forecastCell_20 rfl ?_
    refine ca_bipush h dX12_forecastCell_21 bk_60 ?_
    refine ca_vi h hG ml_X12_254 (c_X12_canRun hs (n := n) (by rw [r_th_23]; exact hN)) (ci := 12) rfl rfl rfl (hs.1 _ _ _ ⟨rfl, rfl⟩) rfl rfl rfl rfl ⟨Nat.le_refl _, Nat.le_refl _⟩ rfl dX12_forecastCell_23 ?_
    refine ca_if_ne (tgt := 35) h dX12_forecastCell_26 (by decide) (fun c_26 => ?_) (fun c_26 => ?_)
    ·
      refine ca_aload_nr h dX12_forecastCell_35 rfl ?_
      refine gs_X12_9 h hs ⟨rfl, rfl⟩ dX12_forecastCell_36 ?_
      refine ca_iconst h dX12_forecastCell_39 ik_0 ?_
      refine ca_aload_nr h dX12_forecastCell_40 rfl ?_
      refine gs_X12_16 h hs ⟨rfl, rfl⟩ dX12_forecastCell_41 ?_
      refine ca_iconst h dX12_forecastCell_44 ik_0 ?_
      refine ca_sv h hG ms_X12_266 (c_X12_copy (kd := 23) (kd2 := 25) (a := 0) (b := 0) (hs.1 16 23 0 ⟨rfl, rfl⟩) (hs.1 16 25 0 ⟨rfl, rfl⟩) rfl rfl (by omega) (by omega) (by decide) (by decide) (Or.inl (by decide))) rfl rfl rfl rfl ⟨Nat.le_refl _, Nat.le_refl _⟩ rfl dX12_forecastCell_45 ?_
      refine ca_aload_nr h dX12_forecastCell_48 rfl ?_
      refine ca_iload_n h dX12_forecastCell_49 rfl ?_
      refine ca_vXv h hG ml_X12_257 (c_X12_pass hs (n := n1) (q := q) (by rw [r_cm_16, up_s, na_k (by decide), r_th_23]; exact hn1) (by omega) (by rw [e13]; exact hc0) hcT) (ci := 12) rfl rfl rfl (hs.1 _ _ _ ⟨rfl, rfl⟩) rfl rfl rfl rfl ⟨Nat.le_refl _, Nat.le_refl _⟩ rfl dX12_forecastCell_50 ?_
      intro μ9 hμ9
      obtain ⟨a, b, x, w2, rfl, hNw⟩ := hμ9
      refine ca_aload_nr h dX12_forecastCell_53 rfl ?_
      refine ca_iload_n h dX12_forecastCell_54 rfl ?_
      refine ca_iconst h dX12_forecastCell_55 ik_5 ?_
      refine ca_vi h hG ml_X12_77 (c_X12_of hs hm12 (by decide)) (ci := 12) rfl rfl rfl (hs.1 _ _ _ ⟨rfl, rfl⟩) rfl rfl rfl rfl ⟨Nat.le_refl _, Nat.le_refl _⟩ rfl dX12_forecastCell_56 ?_
      rw [r_wq_at, r_f hNw (show m < k_mc (k_adv T (n1, q)).1 by unfold k_mc; rw [k_adv_00 (n1, q) 2 (by decide)]; show m < k_mc n1; rw [emc]; exact hm) (f := 5) (by decide)]
      refine ca_istore_n h dX12_forecastCell_59 rfl ?_
      refine ca_aload_nr h dX12_forecastCell_60 rfl ?_
      refine gs_X12_16 h hs ⟨rfl, rfl⟩ dX12_forecastCell_61 ?_
      refine ca_iconst h dX12_forecastCell_64 ik_0 ?_
      refine ca_aload_nr h dX12_forecastCell_65 rfl ?_
      refine gs_X12_9 h hs ⟨rfl, rfl⟩ dX12_forecastCell_66 ?_
      refine ca_iconst h dX12_forecastCell_69 ik_0 ?_
      refine ca_sv h hG ms_X12_266 (c_X12_copy (kd := 25) (kd2 := 23) (a := 0) (b := 0) (hs.1 16 25 0 ⟨rfl, rfl⟩) (hs.1 16 23 0 ⟨rfl, rfl⟩) rfl rfl (by omega) (by omega) (by decide) (by decide) (Or.inl (by decide))) rfl rfl rfl rfl ⟨Nat.le_refl _, Nat.le_refl _⟩ rfl dX12_forecastCell_70 ?_
      refine ca_iload_n h dX12_forecastCell_73 rfl ?_
      refine ca_ireturn h hR rfl dX12_forecastCell_74 ?_
      refine ⟨rfl, rfl, _, by rw [r_cm_16, r_wq_up, r_cm_16, up_up, up_up, r_th_r], ?_, ?_⟩
      all_goals rw [up_s, r_wq_16, up_s]
      · rw [na_k (by decide), na_k (by decide)]; unfold r_pq; rw [nw_at, if_neg (by omega), na_k (by decide), na_k (by decide), na_k (by decide), r_th_16, nw_at, if_pos ⟨rfl, rfl, rfl⟩]
      · have e25 : ∀ (p : ch_N) (f : Nat → Int32), na (r_pq (na (r_th μ 0 16) 25 0 f) a b x) 23 0 w2 25 0 = f := fun p f => by rw [na_k (by decide)]; unfold r_pq; rw [nw_k (by decide), na_k (by decide), na_k (by decide), na_fn]
        refine r_J_mk hJ ?_ ?_ ?_ ?_ ?_ ?_ ?_ ?_
        · rw [na_fn]
          refine r_N_row hN (fun j hj => ?_)
          rw [r_cpy_r0 _ _ hj, e25 (μ 16), r_cpy_r0 _ _ (by omega), Nat.mul_zero, Nat.zero_add, r_th_23]
          congr 1
          omega
        all_goals (rw [na_k (by decide), na_k (by decide)]; unfold r_pq)
        · rw [nw_at, if_neg (by omega), na_k (by decide), na_k (by decide), na_k (by decide), r_th_16, nw_at, if_neg (by omega)]
        · rw [nw_at, if_neg (by omega), na_k (by decide), na_k (by decide), na_k (by decide), r_th_16, nw_at, if_neg (by omega)]
        · rw [nw_at, if_neg (by omega), na_k (by decide), na_k (by decide), na_k (by decide), r_th_16, nw_at, if_neg (by omega)]
        · rw [nw_at, if_neg (by omega), na_k (by decide), na_k (by decide), na_k (by decide), r_th_16, nw_at, if_neg (by omega)]
        · rw [nw_k (by decide), na_k (by decide), na_k (by decide), na_k (by decide), r_th_16, nw_k (by decide)]
        · rw [nw_k (by decide), na_k (by decide), na_k (by decide), na_k (by decide), r_th_16, nw_k (by decide)]
        · rw [nw_k (by decide), na_k (by decide), na_k (by decide), na_k (by decide), r_th_16, nw_k (by decide)]
    · exact absurd (show ((¬ nI T < 0 ∧ ¬ 60 < nI T) ∧ ¬ 100000 < n 0 0 3 + nI T) from ⟨⟨nI_pos (by omega), nI_nlt (a := 60) (b := T) hT60 (by decide)⟩, by rw [hc0, nI_add]; exact r_gt (by omega)⟩) (of_decide_eq_false (bI_0.mp c_26))
  · exact absurd ((r_isM hN _).mpr ⟨m, hm, rfl⟩) (by have z := of_decide_eq_false (bI_0.mp c_10); rw [r_th_0] at z; exact z)
set_option maxHeartbeats 100000 in
theorem c_X12_forecastCellN {l : Launch} {E : ch_E} {S : ch_S} {μ : ch_M} (hs : ch_Std E S) {n : ch_N} (hN : r_N n (μ 16 23 0)) {x : Int32} (hx : ¬ ∃ m, m < k_mc n ∧ x = nI m) {y : Int32} : ch_C E l yX12_forecastCell cX12_forecastCell 4 (some FieldType.int) 9 0 0 S μ [.ref (S.1 16 22 0), .int x, .int y] (ch_F (some (.int (0))) S (r_th μ 1)) := by
  refine ch_enter rfl rfl ?_
  intro X hl0 h hG hR hnm
  have h : ch_H X E RX12 cX12_forecastCell 4 := h
  show ch_W X E 4 S μ 0 0 0 [(0, .ref (S.1 16 22 0)), (1, .int x), (2, .int y)] []
  refine ca_aload_nr h dX12_forecastCell_0 rfl ?_
  refine ca_iconst h dX12_forecastCell_1 ik_0 ?_
  refine pi_X12_70 h (hs.1 _ _ _ ⟨rfl, rfl⟩) dX12_forecastCell_2 ?_
  refine ca_mem (μ'' := r_th μ 0) rfl ?_
  refine ca_aload_nr h dX12_forecastCell_5 rfl ?_
  refine ca_iload_n h dX12_forecastCell_6 rfl ?_
  refine ca_vi h hG ml_X12_170 (c_X12_isMobile hs) (ci := 12) rfl rfl rfl (hs.1 _ _ _ ⟨rfl, rfl⟩) rfl rfl rfl rfl ⟨Nat.le_refl _, Nat.le_refl _⟩ rfl dX12_forecastCell_7 ?_
  refine ca_if_ne (tgt := 19) h dX12_forecastCell_10 (by decide) (fun c_10 => ?_) (fun c_10 => ?_)
  · exact absurd c_10 (fun z => z (bI_0.mpr (decide_eq_false (fun y => hx ((r_isM hN _).mp (by rw [r_th_0] at y; exact y))))))
  ·
    refine ca_aload_nr h dX12_forecastCell_13 rfl ?_
    refine ca_iconst h dX12_forecastCell_14 ik_1 ?_
    refine ca_vi h hG ml_X12_108 (c_X12_raise hs) (ci := 12) rfl rfl rfl (hs.1 _ _ _ ⟨rfl, rfl⟩) rfl rfl rfl rfl ⟨Nat.le_refl _, Nat.le_refl _⟩ rfl dX12_forecastCell_15 ?_
    refine ca_ireturn h hR rfl dX12_forecastCell_18 ?_
    exact ⟨rfl, rfl, by rw [r_th_th]⟩
set_option maxHeartbeats 100000 in
theorem c_X12_forecastCellR {l : Launch} {E : ch_E} {S : ch_S} {μ : ch_M} (hs : ch_Std E S) {n : ch_N} (hN : r_N n (μ 16 23 0)) {m : Nat} (hm : m < k_mc n) {x : Int32} (hx : ¬ ((¬ x < 0 ∧ ¬ 60 < x) ∧ ¬ 100000 < n 0 0 3 + x)) : ch_C E l yX12_forecastCell cX12_forecastCell 4 (some FieldType.int) 9 0 0 S μ [.ref (S.1 16 22 0), .int (nI m), .int x] (ch_F (some (.int (0))) S (r_th μ 2)) := by
  refine ch_enter rfl rfl ?_
  intro X hl0 h hG hR hnm
  have h : ch_H X E RX12 cX12_forecastCell 4 := h
  show ch_W X E 4 S μ 0 0 0 [(0, .ref (S.1 16 22 0)), (1, .int (nI m)), (2, .int x)] []
  refine ca_aload_nr h dX12_forecastCell_0 rfl ?_
  refine ca_iconst h dX12_forecastCell_1 ik_0 ?_
  refine pi_X12_70 h (hs.1 _ _ _ ⟨rfl, rfl⟩) dX12_forecastCell_2 ?_
  refine ca_mem (μ'' := r_th μ 0) rfl ?_
  refine ca_aload_nr h dX12_forecastCell_5 rfl ?_
  refine ca_iload_n h dX12_forecastCell_6 rfl ?_
  refine ca_vi h hG ml_X12_170 (c_X12_isMobile hs) (ci := 12) rfl rfl rfl (hs.1 _ _ _ ⟨rfl, rfl⟩) rfl rfl rfl rfl ⟨Nat.le_refl _, Nat.le_refl _⟩ rfl dX12_forecastCell_7 ?_
  refine ca_if_ne (tgt := 19) h dX12_forecastCell_10 (by decide) (fun c_10 => ?_) (fun c_10 => ?_)
  ·
    refine ca_aload_nr h dX12_forecastCell_19 rfl ?_
    refine ca_iload_n h dX12_forecastCell_20 rfl ?_
    refine ca_bipush h dX12_forecastCell_21 bk_60 ?_
    refine ca_vi h hG ml_X12_254 (c_X12_canRun hs (n := n) (by rw [r_th_23]; exact hN)) (ci := 12) rfl rfl rfl (hs.1 _ _ _ ⟨rfl, rfl⟩) rfl rfl rfl rfl ⟨Nat.le_refl _, Nat.le_refl _⟩ rfl dX12_forecastCell_23 ?_
    refine ca_if_ne (tgt := 35) h dX12_forecastCell_26 (by decide) (fun c_26 => ?_) (fun c_26 => ?_)
    · exact absurd (of_decide_eq_true (bI_n0.mp c_26)) hx
    ·
      refine ca_aload_nr h dX12_forecastCell_29 rfl ?_
      refine ca_iconst h dX12_forecastCell_30 ik_2 ?_
      refine ca_vi h hG ml_X12_108 (c_X12_raise hs) (ci := 12) rfl rfl rfl (hs.1 _ _ _ ⟨rfl, rfl⟩) rfl rfl rfl rfl ⟨Nat.le_refl _, Nat.le_refl _⟩ rfl dX12_forecastCell_31 ?_
      refine ca_ireturn h hR rfl dX12_forecastCell_34 ?_
      exact ⟨rfl, rfl, by rw [r_th_th]⟩
  · exact absurd ((r_isM hN _).mpr ⟨m, hm, rfl⟩) (by have z := of_decide_eq_false (bI_0.mp c_10); rw [r_th_0] at z; exact z)
