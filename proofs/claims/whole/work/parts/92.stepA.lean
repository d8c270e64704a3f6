/-! EACH CALL: class and reference side by side -/
def k_Rf (k : Int32) (B : Int32 → Prop) (S : ch_S) : Option Value → ch_S → ch_M → Prop := fun v S'' μ'' => ∃ z, v = some (.int z) ∧ S'' = S ∧ μ'' 16 22 0 6 = k ∧ k_INV μ'' ∧ (k = 0 → μ'' 17 34 0 0 = z) ∧ B z
def k_Case (E : ch_E) (l : Launch) (S : ch_S) (μ : ch_M) (yH : MethodName) (cH : ByteArray) (maxH : Nat) (hh : List (Nat × Nat × Nat × Nat)) (yM : MethodName) (cM : ByteArray) (maxM : Nat) (retM : Option FieldType) (dM : Nat) (B : Int32 → Prop) (xs : List Value) : Prop :=
  ∃ (k : Int32) (M : ch_M) (d mc ms : Nat), d ≤ 40 ∧ mc ≤ 1 ∧ ms ≤ 6 ∧ ch_CW E l yH cH maxH (some FieldType.int) hh d mc ms S μ (.ref (S.1 15 11 0) :: (xs ++ [.ref (S.1 17 34 0)])) (k_Ok E S k M) ∧ ∀ S', ch_Std E S' → ch_C E l yM cM maxM retM dM 0 0 S' M (.ref (S'.1 16 22 0) :: xs) (k_Rf k B S')
theorem ch_CW_imp {E : ch_E} {l : Launch} {y : MethodName} {cc : ByteArray} {maxL : Nat} {ret : Option FieldType} {hh : List (Nat × Nat × Nat × Nat)} {d mc ms : Nat} {S : ch_S} {μ : ch_M} {args : List Value} {P P' : Option Value → ch_S → ch_M → Prop} (h : ch_CW E l y cc maxL ret hh d mc ms S μ args P) (hi : ∀ v S' μ', P v S' μ' → P' v S' μ') : ch_CW E l y cc maxL ret hh d mc ms S μ args P' := by
  intro p e ha hc hk s m a below hf hap hp ht
  obtain ⟨t, o, h1, h2, h3, h4⟩ := h p e ha hc hk s m a below hf hap hp ht
  refine ⟨t, o, h1, h2, h3, ?_, h4.2⟩
  obtain ⟨⟨v, S', μ', g1, g2, g3⟩, g4⟩ := h4.1
  exact ⟨⟨v, S', μ', g1, hi _ _ _ g2, g3⟩, g4⟩
theorem r_th_69 (μ : ch_M) (t : Int32) : r_th μ t 16 22 0 6 = t := by unfold r_th; rw [up_s, nw_at, if_pos ⟨rfl, rfl, rfl⟩]
theorem r_th_n (μ : ch_M) (t : Int32) {k : Nat} (h : k ≠ 16) : r_th μ t k = μ k := by unfold r_th; exact up_n h
theorem k_RfF {M0 : ch_M} {u p : Nat} (hI : k_Iv M0 u p) {r : Int32} {B : Int32 → Prop} (hB : B r) {S : ch_S} : ∀ v S' μ', ch_F (some (.int r)) S (r_th (ch_st M0 17 34 0 0 r) 0) v S' μ' → k_Rf 0 B S v S' μ' := by
  rintro v S' μ' ⟨rfl, rfl, rfl⟩
  exact ⟨r, rfl, rfl, r_th_69 _ _, ⟨u, p, k_Iv_th (k_Iv_17 hI r) 0⟩, fun _ => by rw [r_th_n _ _ (by decide), st17_v], hB⟩
theorem k_RfT {μ : ch_M} {u p : Nat} (hI : k_Iv μ u p) {t z : Int32} (ht : ¬ t = 0) {B : Int32 → Prop} (hB : B z) {S : ch_S} : ∀ v S' μ', ch_F (some (.int z)) S (r_th μ t) v S' μ' → k_Rf t B S v S' μ' := by
  rintro v S' μ' ⟨rfl, rfl, rfl⟩
  exact ⟨z, rfl, rfl, r_th_69 _ _, ⟨u, p, k_Iv_th hI t⟩, fun e => absurd e ht, hB⟩
theorem k_RfA {M0 : ch_M} {n sn tx : ch_N} {F : Int32} {u : Nat} {hst : Nat → ch_N} {r : Int32} {S : ch_S} (hI : ∀ P, r_J n sn tx F u hst P → k_INV (up (ch_st M0 17 34 0 0 r) 16 P)) : ∀ v S' μ', r_A (some (.int r)) 0 n sn tx F u hst S (ch_st M0 17 34 0 0 r) v S' μ' → k_Rf 0 (fun _ => True) S v S' μ' := by
  rintro v S' μ' ⟨rfl, rfl, P, rfl, h6, hJ⟩
  exact ⟨r, rfl, rfl, by rw [up_s]; exact h6, hI P hJ, fun _ => by rw [up_n (by decide), st17_v], trivial⟩
theorem k_m16 (M0 : ch_M) (r : Int32) (P : ch_N) {k : Nat} (h6 : k ≠ 16) (h7 : k ≠ 17) : up (ch_st M0 17 34 0 0 r) 16 P k = M0 k := by rw [up_n h6, st17 _ _ h7]
theorem INV_rec {μ : ch_M} {u p : Nat} (h : k_Iv μ u p) {M0 : ch_M} {n' : ch_N} (e0 : M0 0 = n') (e1 : M0 1 = μ 1) (e2 : M0 2 = μ 2) (ep : M0 (3 + p) = k_cp (μ (3 + p)) (μ 0)) (eh : ∀ k, 3 ≤ k → k < 15 → k ≠ 3 + p → M0 k = μ k) (e15 : ∀ kd, 11 ≤ kd → kd ≤ 13 → M0 15 kd = μ 15 kd) (e14 : M0 15 14 = k_rec (μ 15) 14) (cnn : k_c8 n' ∧ k_G n') {r : Int32} {P : ch_N} (hJ : r_J n' (μ 2) (μ 15) (μ 15 11 0 7) (r_pu u) (r_ph (k_ring μ p u) u (μ 0)) P) : k_INV (up (ch_st M0 17 34 0 0 r) 16 P) := by
  have hp := h.1
  refine ⟨_, _, k_Iv_rec h (n' := n') ?_ ?_ ?_ ?_ (fun k h1 h2 h3 => ?_) ?_ ?_ ?_ ?_ ?_ cnn (by rw [up_s]; exact hJ)⟩
  · rw [k_m16 _ _ _ (by decide) (by decide)]; exact e0
  · rw [k_m16 _ _ _ (by decide) (by decide)]; exact e1
  · rw [k_m16 _ _ _ (by decide) (by decide)]; exact e2
  · rw [k_m16 _ _ _ (by omega) (by omega)]; exact ep
  · rw [k_m16 _ _ _ (by omega) (by omega)]; exact eh k h1 h2 h3
  · rw [k_m16 _ _ _ (by decide) (by decide)]; exact e15 11 (by decide) (by decide)
  · rw [k_m16 _ _ _ (by decide) (by decide)]; exact e15 12 (by decide) (by decide)
  · rw [k_m16 _ _ _ (by decide) (by decide)]; exact e15 13 (by decide) (by decide)
  · rw [k_m16 _ _ _ (by decide) (by decide), e14]; unfold k_rec; rw [nw_at, if_pos ⟨rfl, rfl, rfl⟩]
  · rw [k_m16 _ _ _ (by decide) (by decide), e14]; unfold k_rec; rw [nw_at, if_neg (by decide), nw_at, if_pos ⟨rfl, rfl, rfl⟩]
theorem k_rcm_h {μ : ch_M} {p k : Nat} (h : k ≠ 15) (h2 : k ≠ 3 + p) : k_rcm μ p k = μ k := by unfold k_rcm; rw [up_n h, up_n h2]
theorem k_rcm_p {μ : ch_M} {p : Nat} (h : p < 12) : k_rcm μ p (3 + p) = k_cp (μ (3 + p)) (μ 0) := by unfold k_rcm; rw [up_n (by omega), up_s]
theorem k_rec_k (q : ch_N) {kd : Nat} (h : kd ≠ 14) : k_rec q kd = q kd := by unfold k_rec; rw [nw_k h, nw_k h]
theorem INV_rec0 {μ : ch_M} {u p : Nat} (h : k_Iv μ u p) {n' q' : ch_N} (hq : ∀ kd, kd ≤ 16 → q' kd = k_rec (μ 15) kd) (cnn : k_c8 n' ∧ k_G n') {r : Int32} : ∀ P, r_J n' (μ 2) (μ 15) (μ 15 11 0 7) (r_pu u) (r_ph (k_ring μ p u) u (μ 0)) P → k_INV (up (ch_st (up (up (k_rcm μ p) 0 n') 15 q') 17 34 0 0 r) 16 P) := by
  intro P hJ
  have hp := h.1
  refine INV_rec h (n' := n') ?_ ?_ ?_ ?_ (fun k h1 h2 h3 => ?_) (fun kd h1 h2 => ?_) ?_ cnn hJ
  · rw [up_n (by decide), up_s]
  · rw [up_n (by decide), up_n (by decide), k_rcm_h (by decide) (by omega)]
  · rw [up_n (by decide), up_n (by decide), k_rcm_h (by decide) (by omega)]
  · rw [up_n (by omega), up_n (by omega), k_rcm_p hp]
  · rw [up_n (by omega), up_n (by omega), k_rcm_h (by omega) h3]
  · rw [up_s, hq kd (by omega), k_rec_k _ (by omega)]
  · rw [up_s, hq 14 (by decide)]
theorem INV_rec1 {μ : ch_M} {u p : Nat} (h : k_Iv μ u p) {n' : ch_N} (cnn : k_c8 n' ∧ k_G n') {r : Int32} : ∀ P, r_J n' (μ 2) (μ 15) (μ 15 11 0 7) (r_pu u) (r_ph (k_ring μ p u) u (μ 0)) P → k_INV (up (ch_st (up (k_rcm μ p) 0 n') 17 34 0 0 r) 16 P) := by
  have e : up (k_rcm μ p) 0 n' = up (up (k_rcm μ p) 0 n') 15 (k_rec (μ 15)) := by
    funext k
    by_cases e : k = 15
    · subst e; rw [up_s, up_n (by decide), k_rcm_15]
    · rw [up_n e]
  rw [e]
  exact INV_rec0 h (fun _ _ => rfl) cnn
theorem INV_rcm16 {μ : ch_M} {p : Nat} (hp : p < 12) : k_rcm μ p 16 = μ 16 := k_rcm_h (by decide) (by omega)
set_option maxHeartbeats 400000 in
theorem k_c_x {l : Launch} {E : ch_E} {S : ch_S} {μ : ch_M} (hl : l.stackTraces = false) (hs : ch_Std E S) (h34 : S.2.1 17 34 0) (hI : k_INV μ) {x1 : Int32} : k_Case E l S μ yL_x cL_x 4 [(0, 9, 12, 19)] yX12_x cX12_x 2 (some FieldType.int) 4 (fun _ => True) [.int x1] := by
  obtain ⟨u, p, hI9⟩ := hI
  have hI8 := hI9
  obtain ⟨hp, hu, ha, hb, hJ, hC⟩ := hI8
  have hN := r_J_n hJ
  have hw : k_wf (μ 0) := hN.2.2.2.2.2
  have hm12 := hw.1
  have hc8 := hw.2.1
  have hN9 : ∀ r, r_N (μ 0) ((ch_st μ 17 34 0 0 r) 16 23 0) := fun r => by rw [st17 _ _ (by decide)]; exact hN
  have hJ9 : ∀ r, r_J (μ 0) (μ 2) (μ 15) (μ 15 11 0 7) u (k_ring μ p u) ((ch_st μ 17 34 0 0 r) 16) := fun r => by rw [st17 _ _ (by decide)]; exact hJ
  by_cases q0 : k_ism (μ 0) x1
  · obtain ⟨m, hm, rfl⟩ := k_ism_e.mp q0
    refine ⟨0, ch_st (μ) 17 34 0 0 (μ 0 3 m 0), 3, 0, 0, by decide, by decide, by decide, c_L_x hs h34 (ch_C_imp (c_X11_x hs hm12 hm) (k_Ok_F hs)), fun S' hs' => ch_C_imp (c_X12_x hs' (hN9 _) hm) (k_RfF hI9 trivial)⟩
  · exact ⟨1, μ, 9, 1, 6, by decide, by decide, by decide, ch_CW_imp (c_L_x_ns hs (c_X11_x_t1 hl hs q0)) (k_Ok_F hs), fun S' hs' => ch_C_imp (c_X12_xN hs' hN (fun z => q0 (k_ism_e.mpr z))) (k_RfT hI9 (by decide) trivial)⟩
set_option maxHeartbeats 400000 in
theorem k_c_y {l : Launch} {E : ch_E} {S : ch_S} {μ : ch_M} (hl : l.stackTraces = false) (hs : ch_Std E S) (h34 : S.2.1 17 34 0) (hI : k_INV μ) {x1 : Int32} : k_Case E l S μ yL_y cL_y 4 [(0, 9, 12, 19)] yX12_y cX12_y 2 (some FieldType.int) 4 (fun _ => True) [.int x1] := by
  obtain ⟨u, p, hI9⟩ := hI
  have hI8 := hI9
  obtain ⟨hp, hu, ha, hb, hJ, hC⟩ := hI8
  have hN := r_J_n hJ
  have hw : k_wf (μ 0) := hN.2.2.2.2.2
  have hm12 := hw.1
  have hc8 := hw.2.1
  have hN9 : ∀ r, r_N (μ 0) ((ch_st μ 17 34 0 0 r) 16 23 0) := fun r => by rw [st17 _ _ (by decide)]; exact hN
  have hJ9 : ∀ r, r_J (μ 0) (μ 2) (μ 15) (μ 15 11 0 7) u (k_ring μ p u) ((ch_st μ 17 34 0 0 r) 16) := fun r => by rw [st17 _ _ (by decide)]; exact hJ
  by_cases q0 : k_ism (μ 0) x1
  · obtain ⟨m, hm, rfl⟩ := k_ism_e.mp q0
    refine ⟨0, ch_st (μ) 17 34 0 0 (μ 0 3 m 1), 3, 0, 0, by decide, by decide, by decide, c_L_y hs h34 (ch_C_imp (c_X11_y hs hm12 hm) (k_Ok_F hs)), fun S' hs' => ch_C_imp (c_X12_y hs' (hN9 _) hm) (k_RfF hI9 trivial)⟩
  · exact ⟨1, μ, 9, 1, 6, by decide, by decide, by decide, ch_CW_imp (c_L_y_ns hs (c_X11_y_t1 hl hs q0)) (k_Ok_F hs), fun S' hs' => ch_C_imp (c_X12_yN hs' hN (fun z => q0 (k_ism_e.mpr z))) (k_RfT hI9 (by decide) trivial)⟩
set_option maxHeartbeats 400000 in
theorem k_c_state {l : Launch} {E : ch_E} {S : ch_S} {μ : ch_M} (hl : l.stackTraces = false) (hs : ch_Std E S) (h34 : S.2.1 17 34 0) (hI : k_INV μ) {x1 : Int32} : k_Case E l S μ yL_state cL_state 4 [(0, 9, 12, 19)] yX12_state cX12_state 2 (some FieldType.int) 4 (fun _ => True) [.int x1] := by
  obtain ⟨u, p, hI9⟩ := hI
  have hI8 := hI9
  obtain ⟨hp, hu, ha, hb, hJ, hC⟩ := hI8
  have hN := r_J_n hJ
  have hw : k_wf (μ 0) := hN.2.2.2.2.2
  have hm12 := hw.1
  have hc8 := hw.2.1
  have hN9 : ∀ r, r_N (μ 0) ((ch_st μ 17 34 0 0 r) 16 23 0) := fun r => by rw [st17 _ _ (by decide)]; exact hN
  have hJ9 : ∀ r, r_J (μ 0) (μ 2) (μ 15) (μ 15 11 0 7) u (k_ring μ p u) ((ch_st μ 17 34 0 0 r) 16) := fun r => by rw [st17 _ _ (by decide)]; exact hJ
  by_cases q0 : k_ism (μ 0) x1
  · obtain ⟨m, hm, rfl⟩ := k_ism_e.mp q0
    refine ⟨0, ch_st (μ) 17 34 0 0 (μ 0 3 m 4), 3, 0, 0, by decide, by decide, by decide, c_L_state hs h34 (ch_C_imp (c_X11_state hs hm12 hm) (k_Ok_F hs)), fun S' hs' => ch_C_imp (c_X12_state hs' (hN9 _) hm) (k_RfF hI9 trivial)⟩
  · exact ⟨1, μ, 9, 1, 6, by decide, by decide, by decide, ch_CW_imp (c_L_state_ns hs (c_X11_state_t1 hl hs q0)) (k_Ok_F hs), fun S' hs' => ch_C_imp (c_X12_stateN hs' hN (fun z => q0 (k_ism_e.mpr z))) (k_RfT hI9 (by decide) trivial)⟩
set_option maxHeartbeats 400000 in
theorem k_c_servingCell {l : Launch} {E : ch_E} {S : ch_S} {μ : ch_M} (hl : l.stackTraces = false) (hs : ch_Std E S) (h34 : S.2.1 17 34 0) (hI : k_INV μ) {x1 : Int32} : k_Case E l S μ yL_servingCell cL_servingCell 4 [(0, 9, 12, 19)] yX12_servingCell cX12_servingCell 2 (some FieldType.int) 4 (fun _ => True) [.int x1] := by
  obtain ⟨u, p, hI9⟩ := hI
  have hI8 := hI9
  obtain ⟨hp, hu, ha, hb, hJ, hC⟩ := hI8
  have hN := r_J_n hJ
  have hw : k_wf (μ 0) := hN.2.2.2.2.2
  have hm12 := hw.1
  have hc8 := hw.2.1
  have hN9 : ∀ r, r_N (μ 0) ((ch_st μ 17 34 0 0 r) 16 23 0) := fun r => by rw [st17 _ _ (by decide)]; exact hN
  have hJ9 : ∀ r, r_J (μ 0) (μ 2) (μ 15) (μ 15 11 0 7) u (k_ring μ p u) ((ch_st μ 17 34 0 0 r) 16) := fun r => by rw [st17 _ _ (by decide)]; exact hJ
  by_cases q0 : k_ism (μ 0) x1
  · obtain ⟨m, hm, rfl⟩ := k_ism_e.mp q0
    refine ⟨0, ch_st (μ) 17 34 0 0 (μ 0 3 m 5), 3, 0, 0, by decide, by decide, by decide, c_L_servingCell hs h34 (ch_C_imp (c_X11_servingCell hs hm12 hm) (k_Ok_F hs)), fun S' hs' => ch_C_imp (c_X12_servingCell hs' (hN9 _) hm) (k_RfF hI9 trivial)⟩
  · exact ⟨1, μ, 9, 1, 6, by decide, by decide, by decide, ch_CW_imp (c_L_servingCell_ns hs (c_X11_servingCell_t1 hl hs q0)) (k_Ok_F hs), fun S' hs' => ch_C_imp (c_X12_servingCellN hs' hN (fun z => q0 (k_ism_e.mpr z))) (k_RfT hI9 (by decide) trivial)⟩
set_option maxHeartbeats 400000 in
theorem k_c_remaining {l : Launch} {E : ch_E} {S : ch_S} {μ : ch_M} (hl : l.stackTraces = false) (hs : ch_Std E S) (h34 : S.2.1 17 34 0) (hI : k_INV μ) {x1 : Int32} : k_Case E l S μ yL_remaining cL_remaining 4 [(0, 9, 12, 19)] yX12_remaining cX12_remaining 2 (some FieldType.int) 4 (fun _ => True) [.int x1] := by
  obtain ⟨u, p, hI9⟩ := hI
  have hI8 := hI9
  obtain ⟨hp, hu, ha, hb, hJ, hC⟩ := hI8
  have hN := r_J_n hJ
  have hw : k_wf (μ 0) := hN.2.2.2.2.2
  have hm12 := hw.1
  have hc8 := hw.2.1
  have hN9 : ∀ r, r_N (μ 0) ((ch_st μ 17 34 0 0 r) 16 23 0) := fun r => by rw [st17 _ _ (by decide)]; exact hN
  have hJ9 : ∀ r, r_J (μ 0) (μ 2) (μ 15) (μ 15 11 0 7) u (k_ring μ p u) ((ch_st μ 17 34 0 0 r) 16) := fun r => by rw [st17 _ _ (by decide)]; exact hJ
  by_cases q0 : k_ism (μ 0) x1
  · obtain ⟨m, hm, rfl⟩ := k_ism_e.mp q0
    refine ⟨0, ch_st (μ) 17 34 0 0 (μ 0 3 m 6), 3, 0, 0, by decide, by decide, by decide, c_L_remaining hs h34 (ch_C_imp (c_X11_remaining hs hm12 hm) (k_Ok_F hs)), fun S' hs' => ch_C_imp (c_X12_remaining hs' (hN9 _) hm) (k_RfF hI9 trivial)⟩
  · exact ⟨1, μ, 9, 1, 6, by decide, by decide, by decide, ch_CW_imp (c_L_remaining_ns hs (c_X11_remaining_t1 hl hs q0)) (k_Ok_F hs), fun S' hs' => ch_C_imp (c_X12_remainingN hs' hN (fun z => q0 (k_ism_e.mpr z))) (k_RfT hI9 (by decide) trivial)⟩
set_option maxHeartbeats 400000 in
theorem k_c_requestCell {l : Launch} {E : ch_E} {S : ch_S} {μ : ch_M} (hl : l.stackTraces = false) (hs : ch_Std E S) (h34 : S.2.1 17 34 0) (hI : k_INV μ) {x1 : Int32} : k_Case E l S μ yL_requestCell cL_requestCell 4 [(0, 9, 12, 19)] yX12_requestCell cX12_requestCell 2 (some FieldType.int) 4 (fun _ => True) [.int x1] := by
  obtain ⟨u, p, hI9⟩ := hI
  have hI8 := hI9
  obtain ⟨hp, hu, ha, hb, hJ, hC⟩ := hI8
  have hN := r_J_n hJ
  have hw : k_wf (μ 0) := hN.2.2.2.2.2
  have hm12 := hw.1
  have hc8 := hw.2.1
  have hN9 : ∀ r, r_N (μ 0) ((ch_st μ 17 34 0 0 r) 16 23 0) := fun r => by rw [st17 _ _ (by decide)]; exact hN
  have hJ9 : ∀ r, r_J (μ 0) (μ 2) (μ 15) (μ 15 11 0 7) u (k_ring μ p u) ((ch_st μ 17 34 0 0 r) 16) := fun r => by rw [st17 _ _ (by decide)]; exact hJ
  by_cases q0 : k_ism (μ 0) x1
  · obtain ⟨m, hm, rfl⟩ := k_ism_e.mp q0
    refine ⟨0, ch_st (μ) 17 34 0 0 (μ 0 3 m 8), 3, 0, 0, by decide, by decide, by decide, c_L_requestCell hs h34 (ch_C_imp (c_X11_requestCell hs hm12 hm) (k_Ok_F hs)), fun S' hs' => ch_C_imp (c_X12_requestCell hs' (hN9 _) hm) (k_RfF hI9 trivial)⟩
  · exact ⟨1, μ, 9, 1, 6, by decide, by decide, by decide, ch_CW_imp (c_L_requestCell_ns hs (c_X11_requestCell_t1 hl hs q0)) (k_Ok_F hs), fun S' hs' => ch_C_imp (c_X12_requestCellN hs' hN (fun z => q0 (k_ism_e.mpr z))) (k_RfT hI9 (by decide) trivial)⟩
set_option maxHeartbeats 400000 in
theorem k_c_coverage {l : Launch} {E : ch_E} {S : ch_S} {μ : ch_M} (hl : l.stackTraces = false) (hs : ch_Std E S) (h34 : S.2.1 17 34 0) (hI : k_INV μ) {x1 : Int32} : k_Case E l S μ yL_coverage cL_coverage 4 [(0, 9, 12, 19)] yX12_coverage cX12_coverage 5 (some FieldType.int) 5 (fun _ => True) [.int x1] := by
  obtain ⟨u, p, hI9⟩ := hI
  have hI8 := hI9
  obtain ⟨hp, hu, ha, hb, hJ, hC⟩ := hI8
  have hN := r_J_n hJ
  have hw : k_wf (μ 0) := hN.2.2.2.2.2
  have hm12 := hw.1
  have hc8 := hw.2.1
  have hN9 : ∀ r, r_N (μ 0) ((ch_st μ 17 34 0 0 r) 16 23 0) := fun r => by rw [st17 _ _ (by decide)]; exact hN
  have hJ9 : ∀ r, r_J (μ 0) (μ 2) (μ 15) (μ 15 11 0 7) u (k_ring μ p u) ((ch_st μ 17 34 0 0 r) 16) := fun r => by rw [st17 _ _ (by decide)]; exact hJ
  by_cases q0 : k_isc (μ 0) x1
  · obtain ⟨c, hc, rfl⟩ := k_isc_e.mp q0
    refine ⟨0, ch_st (μ) 17 34 0 0 (k_cvg (μ 0) (nI c) 28), 6, 0, 0, by decide, by decide, by decide, c_L_coverage hs h34 (ch_C_imp (c_X11_coverage hs hc8 hc) (k_Ok_F hs)), fun S' hs' => ch_C_imp (c_X12_coverage hs' (hN9 _) hc) (k_RfF hI9 trivial)⟩
  · exact ⟨1, μ, 9, 1, 6, by decide, by decide, by decide, ch_CW_imp (c_L_coverage_ns hs (c_X11_coverage_t1 hl hs q0)) (k_Ok_F hs), fun S' hs' => ch_C_imp (c_X12_coverageN hs' hN (fun z => q0 (k_isc_e.mpr z))) (k_RfT hI9 (by decide) trivial)⟩
set_option maxHeartbeats 400000 in
theorem k_c_busyChannels {l : Launch} {E : ch_E} {S : ch_S} {μ : ch_M} (hl : l.stackTraces = false) (hs : ch_Std E S) (h34 : S.2.1 17 34 0) (hI : k_INV μ) {x1 : Int32} : k_Case E l S μ yL_busyChannels cL_busyChannels 4 [(0, 9, 12, 19)] yX12_busyChannels cX12_busyChannels 2 (some FieldType.int) 4 (fun _ => True) [.int x1] := by
  obtain ⟨u, p, hI9⟩ := hI
  have hI8 := hI9
  obtain ⟨hp, hu, ha, hb, hJ, hC⟩ := hI8
  have hN := r_J_n hJ
  have hw : k_wf (μ 0) := hN.2.2.2.2.2
  have hm12 := hw.1
  have hc8 := hw.2.1
  have hN9 : ∀ r, r_N (μ 0) ((ch_st μ 17 34 0 0 r) 16 23 0) := fun r => by rw [st17 _ _ (by decide)]; exact hN
  have hJ9 : ∀ r, r_J (μ 0) (μ 2) (μ 15) (μ 15 11 0 7) u (k_ring μ p u) ((ch_st μ 17 34 0 0 r) 16) := fun r => by rw [st17 _ _ (by decide)]; exact hJ
  by_cases q0 : k_isc (μ 0) x1
  · obtain ⟨c, hc, rfl⟩ := k_isc_e.mp q0
    refine ⟨0, ch_st (μ) 17 34 0 0 (k_tk (μ 0) (nI c)), 4, 0, 0, by decide, by decide, by decide, c_L_busyChannels hs h34 (ch_C_imp (c_X11_busyChannels hs hm12 hc) (k_Ok_F hs)), fun S' hs' => ch_C_imp (c_X12_busyChannels hs' (hN9 _) hc) (k_RfF hI9 trivial)⟩
  · exact ⟨1, μ, 9, 1, 6, by decide, by decide, by decide, ch_CW_imp (c_L_busyChannels_ns hs (c_X11_busyChannels_t1 hl hs q0)) (k_Ok_F hs), fun S' hs' => ch_C_imp (c_X12_busyChannelsN hs' hN (fun z => q0 (k_isc_e.mpr z))) (k_RfT hI9 (by decide) trivial)⟩
set_option maxHeartbeats 400000 in
theorem k_c_queueLength {l : Launch} {E : ch_E} {S : ch_S} {μ : ch_M} (hl : l.stackTraces = false) (hs : ch_Std E S) (h34 : S.2.1 17 34 0) (hI : k_INV μ) {x1 : Int32} : k_Case E l S μ yL_queueLength cL_queueLength 4 [(0, 9, 12, 19)] yX12_queueLength cX12_queueLength 2 (some FieldType.int) 3 (fun _ => True) [.int x1] := by
  obtain ⟨u, p, hI9⟩ := hI
  have hI8 := hI9
  obtain ⟨hp, hu, ha, hb, hJ, hC⟩ := hI8
  have hN := r_J_n hJ
  have hw : k_wf (μ 0) := hN.2.2.2.2.2
  have hm12 := hw.1
  have hc8 := hw.2.1
  have hN9 : ∀ r, r_N (μ 0) ((ch_st μ 17 34 0 0 r) 16 23 0) := fun r => by rw [st17 _ _ (by decide)]; exact hN
  have hJ9 : ∀ r, r_J (μ 0) (μ 2) (μ 15) (μ 15 11 0 7) u (k_ring μ p u) ((ch_st μ 17 34 0 0 r) 16) := fun r => by rw [st17 _ _ (by decide)]; exact hJ
  by_cases q0 : k_isc (μ 0) x1
  · obtain ⟨c, hc, rfl⟩ := k_isc_e.mp q0
    refine ⟨0, ch_st (μ) 17 34 0 0 (k_rq (μ 0) (nI c)), 4, 0, 0, by decide, by decide, by decide, c_L_queueLength hs h34 (ch_C_imp (c_X11_queueLength hs hm12 hc) (k_Ok_F hs)), fun S' hs' => ch_C_imp (c_X12_queueLength hs' (hN9 _) hc) (k_RfF hI9 trivial)⟩
  · exact ⟨1, μ, 9, 1, 6, by decide, by decide, by decide, ch_CW_imp (c_L_queueLength_ns hs (c_X11_queueLength_t1 hl hs q0)) (k_Ok_F hs), fun S' hs' => ch_C_imp (c_X12_queueLengthN hs' hN (fun z => q0 (k_isc_e.mpr z))) (k_RfT hI9 (by decide) trivial)⟩
set_option maxHeartbeats 400000 in
theorem k_c_congestedTicks {l : Launch} {E : ch_E} {S : ch_S} {μ : ch_M} (hl : l.stackTraces = false) (hs : ch_Std E S) (h34 : S.2.1 17 34 0) (hI : k_INV μ) {x1 : Int32} : k_Case E l S μ yL_congestedTicks cL_congestedTicks 4 [(0, 9, 12, 19)] yX12_congestedTicks cX12_congestedTicks 2 (some FieldType.int) 3 (fun _ => True) [.int x1] := by
  obtain ⟨u, p, hI9⟩ := hI
  have hI8 := hI9
  obtain ⟨hp, hu, ha, hb, hJ, hC⟩ := hI8
  have hN := r_J_n hJ
  have hw : k_wf (μ 0) := hN.2.2.2.2.2
  have hm12 := hw.1
  have hc8 := hw.2.1
  have hN9 : ∀ r, r_N (μ 0) ((ch_st μ 17 34 0 0 r) 16 23 0) := fun r => by rw [st17 _ _ (by decide)]; exact hN
  have hJ9 : ∀ r, r_J (μ 0) (μ 2) (μ 15) (μ 15 11 0 7) u (k_ring μ p u) ((ch_st μ 17 34 0 0 r) 16) := fun r => by rw [st17 _ _ (by decide)]; exact hJ
  by_cases q0 : k_isc (μ 0) x1
  · obtain ⟨c, hc, rfl⟩ := k_isc_e.mp q0
    refine ⟨0, ch_st (μ) 17 34 0 0 (μ 0 1 c 8), 3, 0, 0, by decide, by decide, by decide, c_L_congestedTicks hs h34 (ch_C_imp (c_X11_congestedTicks hs hc8 hc) (k_Ok_F hs)), fun S' hs' => ch_C_imp (c_X12_congestedTicks hs' (hN9 _) hc) (k_RfF hI9 trivial)⟩
  · exact ⟨1, μ, 9, 1, 6, by decide, by decide, by decide, ch_CW_imp (c_L_congestedTicks_ns hs (c_X11_congestedTicks_t1 hl hs q0)) (k_Ok_F hs), fun S' hs' => ch_C_imp (c_X12_congestedTicksN hs' hN (fun z => q0 (k_isc_e.mpr z))) (k_RfT hI9 (by decide) trivial)⟩
set_option maxHeartbeats 400000 in
theorem k_c_hysteresis {l : Launch} {E : ch_E} {S : ch_S} {μ : ch_M} (hl : l.stackTraces = false) (hs : ch_Std E S) (h34 : S.2.1 17 34 0) (hI : k_INV μ) {x1 x2 : Int32} : k_Case E l S μ yL_hysteresis cL_hysteresis 5 [(0, 10, 13, 19)] yX12_hysteresis cX12_hysteresis 3 (some FieldType.int) 4 (fun _ => True) [.int x1, .int x2] := by
  obtain ⟨u, p, hI9⟩ := hI
  have hI8 := hI9
  obtain ⟨hp, hu, ha, hb, hJ, hC⟩ := hI8
  have hN := r_J_n hJ
  have hw : k_wf (μ 0) := hN.2.2.2.2.2
  have hm12 := hw.1
  have hc8 := hw.2.1
  have hN9 : ∀ r, r_N (μ 0) ((ch_st μ 17 34 0 0 r) 16 23 0) := fun r => by rw [st17 _ _ (by decide)]; exact hN
  have hJ9 : ∀ r, r_J (μ 0) (μ 2) (μ 15) (μ 15 11 0 7) u (k_ring μ p u) ((ch_st μ 17 34 0 0 r) 16) := fun r => by rw [st17 _ _ (by decide)]; exact hJ
  by_cases q0 : (k_isc (μ 0) x1) ∧ (k_isc (μ 0) x2)
  · obtain ⟨q1, q2⟩ := q0
    obtain ⟨a, ha, rfl⟩ := k_isc_e.mp q1
    obtain ⟨b, hbb, rfl⟩ := k_isc_e.mp q2
    refine ⟨0, ch_st (μ) 17 34 0 0 (if μ 0 2 (8 * a + b) 0 = 0 then (-1) else μ 0 2 (8 * a + b) 1), 3, 0, 0, by decide, by decide, by decide, c_L_hysteresis hs h34 (ch_C_imp (c_X11_hysteresis hs hc8 ha hbb) (k_Ok_F hs)), fun S' hs' => ch_C_imp (c_X12_hysteresis hs' (hN9 _) ha hbb) (k_RfF hI9 trivial)⟩
  · exact ⟨1, μ, 9, 1, 6, by decide, by decide, by decide, ch_CW_imp (c_L_hysteresis_ns hs (c_X11_hysteresis_t1 hl hs q0)) (k_Ok_F hs), fun S' hs' => ch_C_imp (c_X12_hysteresisN hs' hN (fun z => q0 ⟨k_isc_e.mpr z.1, k_isc_e.mpr z.2⟩)) (k_RfT hI9 (by decide) trivial)⟩
set_option maxHeartbeats 400000 in
theorem k_c_successes {l : Launch} {E : ch_E} {S : ch_S} {μ : ch_M} (hl : l.stackTraces = false) (hs : ch_Std E S) (h34 : S.2.1 17 34 0) (hI : k_INV μ) {x1 x2 : Int32} : k_Case E l S μ yL_successes cL_successes 5 [(0, 10, 13, 19)] yX12_successes cX12_successes 3 (some FieldType.int) 4 (fun _ => True) [.int x1, .int x2] := by
  obtain ⟨u, p, hI9⟩ := hI
  have hI8 := hI9
  obtain ⟨hp, hu, ha, hb, hJ, hC⟩ := hI8
  have hN := r_J_n hJ
  have hw : k_wf (μ 0) := hN.2.2.2.2.2
  have hm12 := hw.1
  have hc8 := hw.2.1
  have hN9 : ∀ r, r_N (μ 0) ((ch_st μ 17 34 0 0 r) 16 23 0) := fun r => by rw [st17 _ _ (by decide)]; exact hN
  have hJ9 : ∀ r, r_J (μ 0) (μ 2) (μ 15) (μ 15 11 0 7) u (k_ring μ p u) ((ch_st μ 17 34 0 0 r) 16) := fun r => by rw [st17 _ _ (by decide)]; exact hJ
  by_cases q0 : (k_isc (μ 0) x1) ∧ (k_isc (μ 0) x2)
  · obtain ⟨q1, q2⟩ := q0
    obtain ⟨a, ha, rfl⟩ := k_isc_e.mp q1
    obtain ⟨b, hbb, rfl⟩ := k_isc_e.mp q2
    refine ⟨0, ch_st (μ) 17 34 0 0 (μ 0 2 (8 * a + b) 2), 3, 0, 0, by decide, by decide, by decide, c_L_successes hs h34 (ch_C_imp (c_X11_successes hs hc8 ha hbb) (k_Ok_F hs)), fun S' hs' => ch_C_imp (c_X12_successes hs' (hN9 _) ha hbb) (k_RfF hI9 trivial)⟩
  · exact ⟨1, μ, 9, 1, 6, by decide, by decide, by decide, ch_CW_imp (c_L_successes_ns hs (c_X11_successes_t1 hl hs q0)) (k_Ok_F hs), fun S' hs' => ch_C_imp (c_X12_successesN hs' hN (fun z => q0 ⟨k_isc_e.mpr z.1, k_isc_e.mpr z.2⟩)) (k_RfT hI9 (by decide) trivial)⟩
set_option maxHeartbeats 400000 in
theorem k_c_refusals {l : Launch} {E : ch_E} {S : ch_S} {μ : ch_M} (hl : l.stackTraces = false) (hs : ch_Std E S) (h34 : S.2.1 17 34 0) (hI : k_INV μ) {x1 x2 : Int32} : k_Case E l S μ yL_refusals cL_refusals 5 [(0, 10, 13, 19)] yX12_refusals cX12_refusals 3 (some FieldType.int) 4 (fun _ => True) [.int x1, .int x2] := by
  obtain ⟨u, p, hI9⟩ := hI
  have hI8 := hI9
  obtain ⟨hp, hu, ha, hb, hJ, hC⟩ := hI8
  have hN := r_J_n hJ
  have hw : k_wf (μ 0) := hN.2.2.2.2.2
  have hm12 := hw.1
  have hc8 := hw.2.1
  have hN9 : ∀ r, r_N (μ 0) ((ch_st μ 17 34 0 0 r) 16 23 0) := fun r => by rw [st17 _ _ (by decide)]; exact hN
  have hJ9 : ∀ r, r_J (μ 0) (μ 2) (μ 15) (μ 15 11 0 7) u (k_ring μ p u) ((ch_st μ 17 34 0 0 r) 16) := fun r => by rw [st17 _ _ (by decide)]; exact hJ
  by_cases q0 : (k_isc (μ 0) x1) ∧ (k_isc (μ 0) x2)
  · obtain ⟨q1, q2⟩ := q0
    obtain ⟨a, ha, rfl⟩ := k_isc_e.mp q1
    obtain ⟨b, hbb, rfl⟩ := k_isc_e.mp q2
    refine ⟨0, ch_st (μ) 17 34 0 0 (μ 0 2 (8 * a + b) 3), 3, 0, 0, by decide, by decide, by decide, c_L_refusals hs h34 (ch_C_imp (c_X11_refusals hs hc8 ha hbb) (k_Ok_F hs)), fun S' hs' => ch_C_imp (c_X12_refusals hs' (hN9 _) ha hbb) (k_RfF hI9 trivial)⟩
  · exact ⟨1, μ, 9, 1, 6, by decide, by decide, by decide, ch_CW_imp (c_L_refusals_ns hs (c_X11_refusals_t1 hl hs q0)) (k_Ok_F hs), fun S' hs' => ch_C_imp (c_X12_refusalsN hs' hN (fun z => q0 ⟨k_isc_e.mpr z.1, k_isc_e.mpr z.2⟩)) (k_RfT hI9 (by decide) trivial)⟩
set_option maxHeartbeats 400000 in
theorem k_c_average {l : Launch} {E : ch_E} {S : ch_S} {μ : ch_M} (hl : l.stackTraces = false) (hs : ch_Std E S) (h34 : S.2.1 17 34 0) (hI : k_INV μ) {x1 x2 : Int32} : k_Case E l S μ yL_average cL_average 5 [(0, 10, 13, 19)] yX12_average cX12_average 3 (some FieldType.int) 4 (fun _ => True) [.int x1, .int x2] := by
  obtain ⟨u, p, hI9⟩ := hI
  have hI8 := hI9
  obtain ⟨hp, hu, ha, hb, hJ, hC⟩ := hI8
  have hN := r_J_n hJ
  have hw : k_wf (μ 0) := hN.2.2.2.2.2
  have hm12 := hw.1
  have hc8 := hw.2.1
  have hN9 : ∀ r, r_N (μ 0) ((ch_st μ 17 34 0 0 r) 16 23 0) := fun r => by rw [st17 _ _ (by decide)]; exact hN
  have hJ9 : ∀ r, r_J (μ 0) (μ 2) (μ 15) (μ 15 11 0 7) u (k_ring μ p u) ((ch_st μ 17 34 0 0 r) 16) := fun r => by rw [st17 _ _ (by decide)]; exact hJ
  by_cases q0 : (k_ism (μ 0) x1) ∧ (k_isc (μ 0) x2)
  · obtain ⟨q1, q2⟩ := q0
    obtain ⟨m, hm, rfl⟩ := k_ism_e.mp q1
    obtain ⟨b, hbb, rfl⟩ := k_isc_e.mp q2
    refine ⟨0, ch_st (μ) 17 34 0 0 (k_avg (μ 0) m (nI b)), 3, 0, 0, by decide, by decide, by decide, c_L_average hs h34 (ch_C_imp (c_X11_average hs hw hm hbb) (k_Ok_F hs)), fun S' hs' => ch_C_imp (c_X12_average hs' (hN9 _) hm hbb) (k_RfF hI9 trivial)⟩
  · exact ⟨1, μ, 9, 1, 6, by decide, by decide, by decide, ch_CW_imp (c_L_average_ns hs (c_X11_average_t1 hl hs q0)) (k_Ok_F hs), fun S' hs' => ch_C_imp (c_X12_averageN hs' hN (fun z => q0 ⟨k_ism_e.mpr z.1, k_isc_e.mpr z.2⟩)) (k_RfT hI9 (by decide) trivial)⟩
set_option maxHeartbeats 400000 in
theorem k_c_reportCount {l : Launch} {E : ch_E} {S : ch_S} {μ : ch_M} (hl : l.stackTraces = false) (hs : ch_Std E S) (h34 : S.2.1 17 34 0) (hI : k_INV μ) {x1 x2 : Int32} : k_Case E l S μ yL_reportCount cL_reportCount 5 [(0, 10, 13, 19)] yX12_reportCount cX12_reportCount 3 (some FieldType.int) 4 (fun _ => True) [.int x1, .int x2] := by
  obtain ⟨u, p, hI9⟩ := hI
  have hI8 := hI9
  obtain ⟨hp, hu, ha, hb, hJ, hC⟩ := hI8
  have hN := r_J_n hJ
  have hw : k_wf (μ 0) := hN.2.2.2.2.2
  have hm12 := hw.1
  have hc8 := hw.2.1
  have hN9 : ∀ r, r_N (μ 0) ((ch_st μ 17 34 0 0 r) 16 23 0) := fun r => by rw [st17 _ _ (by decide)]; exact hN
  have hJ9 : ∀ r, r_J (μ 0) (μ 2) (μ 15) (μ 15 11 0 7) u (k_ring μ p u) ((ch_st μ 17 34 0 0 r) 16) := fun r => by rw [st17 _ _ (by decide)]; exact hJ
  by_cases q0 : (k_ism (μ 0) x1) ∧ (k_isc (μ 0) x2)
  · obtain ⟨q1, q2⟩ := q0
    obtain ⟨m, hm, rfl⟩ := k_ism_e.mp q1
    obtain ⟨b, hbb, rfl⟩ := k_isc_e.mp q2
    refine ⟨0, ch_st (μ) 17 34 0 0 (k_rep (μ 0) m (nI b)), 3, 0, 0, by decide, by decide, by decide, c_L_reportCount hs h34 (ch_C_imp (c_X11_reportCount hs hw hm hbb) (k_Ok_F hs)), fun S' hs' => ch_C_imp (by rw [k_rep_c (show b < 8 by omega)]; exact c_X12_reportCount hs' (hN9 _) hm hbb) (k_RfF hI9 trivial)⟩
  · exact ⟨1, μ, 9, 1, 6, by decide, by decide, by decide, ch_CW_imp (c_L_reportCount_ns hs (c_X11_reportCount_t1 hl hs q0)) (k_Ok_F hs), fun S' hs' => ch_C_imp (c_X12_reportCountN hs' hN (fun z => q0 ⟨k_ism_e.mpr z.1, k_isc_e.mpr z.2⟩)) (k_RfT hI9 (by decide) trivial)⟩
set_option maxHeartbeats 400000 in
theorem k_c_isBarred {l : Launch} {E : ch_E} {S : ch_S} {μ : ch_M} (hl : l.stackTraces = false) (hs : ch_Std E S) (h34 : S.2.1 17 34 0) (hI : k_INV μ) {x1 x2 : Int32} : k_Case E l S μ yL_isBarred cL_isBarred 5 [(0, 17, 20, 19)] yX12_isBarred cX12_isBarred 3 (some FieldType.boolean) 4 (fun z => z = 0 ∨ z = 1) [.int x1, .int x2] := by
  obtain ⟨u, p, hI9⟩ := hI
  have hI8 := hI9
  obtain ⟨hp, hu, ha, hb, hJ, hC⟩ := hI8
  have hN := r_J_n hJ
  have hw : k_wf (μ 0) := hN.2.2.2.2.2
  have hm12 := hw.1
  have hc8 := hw.2.1
  have hN9 : ∀ r, r_N (μ 0) ((ch_st μ 17 34 0 0 r) 16 23 0) := fun r => by rw [st17 _ _ (by decide)]; exact hN
  have hJ9 : ∀ r, r_J (μ 0) (μ 2) (μ 15) (μ 15 11 0 7) u (k_ring μ p u) ((ch_st μ 17 34 0 0 r) 16) := fun r => by rw [st17 _ _ (by decide)]; exact hJ
  by_cases q0 : (k_ism (μ 0) x1) ∧ (k_isc (μ 0) x2)
  · obtain ⟨q1, q2⟩ := q0
    obtain ⟨m, hm, rfl⟩ := k_ism_e.mp q1
    obtain ⟨b, hbb, rfl⟩ := k_isc_e.mp q2
    refine ⟨0, ch_st (μ) 17 34 0 0 (bI (k_isb (μ 0) m (nI b) (μ 0 0 0 3))), 3, 0, 0, by decide, by decide, by decide, c_L_isBarred hs h34 (bI_01 _) (ch_C_imp (c_X11_isBarred hs hw hm hbb) (k_Ok_F hs)), fun S' hs' => ch_C_imp (c_X12_isBarred hs' (hN9 _) hm hbb) (k_RfF hI9 (bI_01 _))⟩
  · exact ⟨1, μ, 9, 1, 6, by decide, by decide, by decide, ch_CW_imp (c_L_isBarred_ns hs (c_X11_isBarred_t1 hl hs q0)) (k_Ok_F hs), fun S' hs' => ch_C_imp (c_X12_isBarredN hs' hN (fun z => q0 ⟨k_ism_e.mpr z.1, k_isc_e.mpr z.2⟩)) (k_RfT hI9 (by decide) (Or.inl rfl))⟩
set_option maxHeartbeats 400000 in
theorem k_c_queued {l : Launch} {E : ch_E} {S : ch_S} {μ : ch_M} (hl : l.stackTraces = false) (hs : ch_Std E S) (h34 : S.2.1 17 34 0) (hI : k_INV μ) {x1 x2 : Int32} : k_Case E l S μ yL_queued cL_queued 5 [(0, 10, 13, 19)] yX12_queued cX12_queued 3 (some FieldType.int) 4 (fun _ => True) [.int x1, .int x2] := by
  obtain ⟨u, p, hI9⟩ := hI
  have hI8 := hI9
  obtain ⟨hp, hu, ha, hb, hJ, hC⟩ := hI8
  have hN := r_J_n hJ
  have hw : k_wf (μ 0) := hN.2.2.2.2.2
  have hm12 := hw.1
  have hc8 := hw.2.1
  have hN9 : ∀ r, r_N (μ 0) ((ch_st μ 17 34 0 0 r) 16 23 0) := fun r => by rw [st17 _ _ (by decide)]; exact hN
  have hJ9 : ∀ r, r_J (μ 0) (μ 2) (μ 15) (μ 15 11 0 7) u (k_ring μ p u) ((ch_st μ 17 34 0 0 r) 16) := fun r => by rw [st17 _ _ (by decide)]; exact hJ
  by_cases q0 : (k_isc (μ 0) x1) ∧ (¬ x2 < 0)
  · obtain ⟨q1, q2⟩ := q0
    obtain ⟨a, ha, rfl⟩ := k_isc_e.mp q1
    refine ⟨0, ch_st (μ) 17 34 0 0 (k_qm (μ 0) (nI a) x2), 6, 0, 0, by decide, by decide, by decide, c_L_queued hs h34 (ch_C_imp (c_X11_queued hs hm12 ha q2) (k_Ok_F hs)), fun S' hs' => ch_C_imp (c_X12_queued hs' (hN9 _) ha q2) (k_RfF hI9 trivial)⟩
  · exact ⟨1, μ, 9, 1, 6, by decide, by decide, by decide, ch_CW_imp (c_L_queued_ns hs (c_X11_queued_t1 hl hs q0)) (k_Ok_F hs), fun S' hs' => ch_C_imp (c_X12_queuedN hs' hN (fun z => q0 ⟨k_isc_e.mpr z.1, id z.2⟩)) (k_RfT hI9 (by decide) trivial)⟩
set_option maxHeartbeats 400000 in
theorem k_c_level {l : Launch} {E : ch_E} {S : ch_S} {μ : ch_M} (hl : l.stackTraces = false) (hs : ch_Std E S) (h34 : S.2.1 17 34 0) (hI : k_INV μ) {x1 x2 x3 : Int32} : k_Case E l S μ yL_level cL_level 6 [(0, 12, 15, 19), (0, 12, 19, 13)] yX12_level cX12_level 4 (some FieldType.int) 3 (fun _ => True) [.int x1, .int x2, .int x3] := by
  obtain ⟨u, p, hI9⟩ := hI
  have hI8 := hI9
  obtain ⟨hp, hu, ha, hb, hJ, hC⟩ := hI8
  have hN := r_J_n hJ
  have hw : k_wf (μ 0) := hN.2.2.2.2.2
  have hm12 := hw.1
  have hc8 := hw.2.1
  have hN9 : ∀ r, r_N (μ 0) ((ch_st μ 17 34 0 0 r) 16 23 0) := fun r => by rw [st17 _ _ (by decide)]; exact hN
  have hJ9 : ∀ r, r_J (μ 0) (μ 2) (μ 15) (μ 15 11 0 7) u (k_ring μ p u) ((ch_st μ 17 34 0 0 r) 16) := fun r => by rw [st17 _ _ (by decide)]; exact hJ
  by_cases q0 : k_isc (μ 0) x1
  · obtain ⟨c, hc, rfl⟩ := k_isc_e.mp q0
    by_cases q1 : (k_rg 0 999 x2) ∧ (k_rg 0 999 x3)
    · refine ⟨0, ch_st (μ) 17 34 0 0 (k_lv (μ 0) c x2 x3), 3, 0, 0, by decide, by decide, by decide, c_L_level hs h34 (ch_C_imp (c_X11_level hs hc8 hc q1.1 q1.2) (k_Ok_F hs)), fun S' hs' => ch_C_imp (c_X12_level hs' (hN9 _) hc q1.1 q1.2) (k_RfF hI9 trivial)⟩
    · exact ⟨2, μ, 9, 1, 6, by decide, by decide, by decide, ch_CW_imp (c_L_level_ia hs (c_X11_level_t2 hl hs q0 q1)) (k_Ok_F hs), fun S' hs' => ch_C_imp (c_X12_levelR hs' hN hc q1) (k_RfT hI9 (by decide) trivial)⟩
  · exact ⟨1, μ, 9, 1, 6, by decide, by decide, by decide, ch_CW_imp (c_L_level_ns hs (c_X11_level_t1 hl hs q0)) (k_Ok_F hs), fun S' hs' => ch_C_imp (c_X12_levelN hs' hN (fun z => q0 (k_isc_e.mpr z))) (k_RfT hI9 (by decide) trivial)⟩
set_option maxHeartbeats 400000 in
theorem k_c_strongestCell {l : Launch} {E : ch_E} {S : ch_S} {μ : ch_M} (hl : l.stackTraces = false) (hs : ch_Std E S) (h34 : S.2.1 17 34 0) (hI : k_INV μ) {x1 x2 : Int32} : k_Case E l S μ yL_strongestCell cL_strongestCell 5 [(0, 10, 13, 13)] yX12_strongestCell cX12_strongestCell 3 (some FieldType.int) 5 (fun _ => True) [.int x1, .int x2] := by
  obtain ⟨u, p, hI9⟩ := hI
  have hI8 := hI9
  obtain ⟨hp, hu, ha, hb, hJ, hC⟩ := hI8
  have hN := r_J_n hJ
  have hw : k_wf (μ 0) := hN.2.2.2.2.2
  have hm12 := hw.1
  have hc8 := hw.2.1
  have hN9 : ∀ r, r_N (μ 0) ((ch_st μ 17 34 0 0 r) 16 23 0) := fun r => by rw [st17 _ _ (by decide)]; exact hN
  have hJ9 : ∀ r, r_J (μ 0) (μ 2) (μ 15) (μ 15 11 0 7) u (k_ring μ p u) ((ch_st μ 17 34 0 0 r) 16) := fun r => by rw [st17 _ _ (by decide)]; exact hJ
  by_cases q1 : (k_rg 0 999 x1) ∧ (k_rg 0 999 x2)
  · refine ⟨0, ch_st (μ) 17 34 0 0 (k_cov (μ 0) x1 x2), 5, 0, 0, by decide, by decide, by decide, c_L_strongestCell hs h34 (ch_C_imp (c_X11_strongestCell hs hc8 q1.1 q1.2) (k_Ok_F hs)), fun S' hs' => ch_C_imp (c_X12_strongestCell hs' (hN9 _) q1.1 q1.2) (k_RfF hI9 trivial)⟩
  · exact ⟨1, μ, 9, 1, 6, by decide, by decide, by decide, ch_CW_imp (c_L_strongestCell_ia hs (c_X11_strongestCell_t1 hl hs q1)) (k_Ok_F hs), fun S' hs' => ch_C_imp (c_X12_strongestCellR hs' q1) (k_RfT hI9 (by decide) trivial)⟩
