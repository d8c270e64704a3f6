/-! EACH CALL THAT WRITES -/
theorem k_tk9_of {n : ch_N} (hK : r_K n) {most x : Int32} {M : Nat} (eM : most = nI M) (hM : M ≤ 60) (h : (¬ x < 0 ∧ ¬ most < x) ∧ ¬ 100000 < n 0 0 3 + x) : k_tk9 n most x := by
  refine ⟨h.1, fun z => ?_, h.2⟩
  obtain ⟨j, hj, rfl⟩ := nI_of h.1.1
  obtain ⟨c, hc, ec⟩ := nI_of hK.1.1
  have h2 := h.1.2
  rw [eM] at h2
  have hjM : j ≤ M := by
    rcases Nat.lt_or_ge M j with y | y
    · exact absurd (nI_lt y hj) h2
    · exact y
  have hc2 : c ≤ 100000 := by
    rcases Nat.lt_or_ge 100000 c with y | y
    · exact absurd (show (100000 : Int32) < n 0 0 3 by rw [ec]; exact nI_lt (a := 100000) y hc) hK.1.2.1
    · exact y
  rw [ec, nI_add] at z
  exact nI_pos (by omega) z
theorem k_tk9_n {n : ch_N} (hK : r_K n) {most x : Int32} {M : Nat} (eM : most = nI M) (hM : M ≤ 60) (h : k_tk9 n most x) : ∃ T c, x = nI T ∧ T ≤ M ∧ n 0 0 3 = nI c ∧ c + T ≤ 100000 := by
  obtain ⟨j, hj, rfl⟩ := nI_of h.1.1
  obtain ⟨c, hc, ec⟩ := nI_of hK.1.1
  have h2 := h.1.2
  rw [eM] at h2
  have hjM : j ≤ M := by
    rcases Nat.lt_or_ge M j with y | y
    · exact absurd (nI_lt y hj) h2
    · exact y
  have hc2 : c ≤ 100000 := by
    rcases Nat.lt_or_ge 100000 c with y | y
    · exact absurd (show (100000 : Int32) < n 0 0 3 by rw [ec]; exact nI_lt (a := 100000) y hc) hK.1.2.1
    · exact y
  refine ⟨j, c, rfl, hjM, ec, ?_⟩
  have h3 := h.2.2
  rw [ec, nI_add] at h3
  rcases Nat.lt_or_ge 100000 (c + j) with y | y
  · exact absurd (nI_lt (a := 100000) y (by omega)) h3
  · exact y
theorem G_nw21 {n : ch_N} (h : k_G n) {i : Nat} {v : Int32} (hv : ¬ v < 0) : k_G (nw n 2 i 1 v) := by
  refine ⟨fun m hm => by rw [nw_k (by decide)]; exact h.1 m hm, fun r hr => ?_⟩
  rw [nw_at]
  split
  · exact hv
  · exact h.2 r hr
theorem G_amN {n : ch_N} (h : k_G n) (M : Nat) (x y vx vy : Int32) : k_G (k_amN n M x y vx vy) := G_idle (G_nw3 (G_nw3 (G_nw3 (G_nw3 (G_nwo h (by decide) (by decide) _) (by decide) _) (by decide) _) (by decide) _) (by decide) _) _
theorem J_c8 {n sn tx : ch_N} {F : Int32} {u : Nat} {hst : Nat → ch_N} {P : ch_N} (hJ : r_J n sn tx F u hst P) : k_c8 n := k_wf_c8 (r_J_n hJ).2.2.2.2.2
theorem INV_w {μ : ch_M} {u p : Nat} (h : k_Iv μ u p) {n' : ch_N} (hG : k_G n') {r : Int32} : ∀ P, r_J n' (μ 2) (μ 15) (μ 15 11 0 7) (r_pu u) (r_ph (k_ring μ p u) u (μ 0)) P → k_INV (up (ch_st (up (k_rcm μ p) 0 n') 17 34 0 0 r) 16 P) := fun P hJ => INV_rec1 h ⟨J_c8 hJ, hG⟩ P hJ
/-- trials -/
theorem INV_tr {μ : ch_M} {u p : Nat} (h : k_Iv μ u p) {A B : ch_N} (hB : ∀ kd, kd ≤ 16 → B kd = μ 15 kd) (hA : k_c8 A ∧ k_G A) {r : Int32} : ∀ P, r_J (μ 0) (μ 2) (μ 15) (μ 15 11 0 7) u (k_ring μ p u) P → k_INV (up (ch_st (up (up μ 1 A) 15 B) 17 34 0 0 r) 16 P) := by
  intro P hJ
  refine ⟨u, p, k_Iv_mk h ?_ ?_ (fun k h1 h2 => ?_) ?_ ?_ ?_ ?_ ?_ ?_ (by rw [up_s]; exact hJ)⟩
  · rw [k_m16 _ _ _ (by decide) (by decide), up_n (by decide), up_n (by decide)]
  · rw [k_m16 _ _ _ (by decide) (by decide), up_n (by decide), up_n (by decide)]
  · rw [k_m16 _ _ _ (by omega) (by omega), up_n (by omega), up_n (by omega)]
  · rw [k_m16 _ _ _ (by decide) (by decide), up_n (by decide), up_s]; exact hA
  · rw [k_m16 _ _ _ (by decide) (by decide), up_s]; exact hB 11 (by decide)
  · rw [k_m16 _ _ _ (by decide) (by decide), up_s, hB 12 (by decide)]
  · rw [k_m16 _ _ _ (by decide) (by decide), up_s, hB 12 (by decide)]
  · rw [k_m16 _ _ _ (by decide) (by decide), up_s, hB 13 (by decide)]
  · rw [k_m16 _ _ _ (by decide) (by decide), up_s]; exact hB 14 (by decide)
theorem k_Iv_15 {μ : ch_M} {u p : Nat} (h : k_Iv μ u p) {q : ch_N} (hq : ∀ kd, kd ≤ 16 → q kd = μ 15 kd) : k_Iv (up μ 15 q) u p :=
  k_Iv_o h (fun k hk => up_n (by omega)) (fun kd _ h2 => by rw [up_s]; exact hq kd (by omega))
theorem INV_15 {μ : ch_M} {u p : Nat} (h : k_Iv μ u p) {q : ch_N} (hq : ∀ kd, kd ≤ 16 → q kd = μ 15 kd) {r : Int32} : ∀ P, r_J (μ 0) (μ 2) (μ 15) (μ 15 11 0 7) u (k_ring μ p u) P → k_INV (up (ch_st (up μ 15 q) 17 34 0 0 r) 16 P) := by
  intro P hJ
  have h2 := k_Iv_17 (k_Iv_15 h hq) r
  refine ⟨u, p, k_Iv_mk h ?_ ?_ (fun k h1 h2 => ?_) ?_ ?_ ?_ ?_ ?_ ?_ (by rw [up_s]; exact hJ)⟩
  · rw [k_m16 _ _ _ (by decide) (by decide), up_n (by decide)]
  · rw [k_m16 _ _ _ (by decide) (by decide), up_n (by decide)]
  · rw [k_m16 _ _ _ (by omega) (by omega), up_n (by omega)]
  · rw [k_m16 _ _ _ (by decide) (by decide), up_n (by decide)]; exact h.2.2.2.2.2 1 (by decide)
  · rw [k_m16 _ _ _ (by decide) (by decide), up_s]; exact hq 11 (by decide)
  · rw [k_m16 _ _ _ (by decide) (by decide), up_s, hq 12 (by decide)]
  · rw [k_m16 _ _ _ (by decide) (by decide), up_s, hq 12 (by decide)]
  · rw [k_m16 _ _ _ (by decide) (by decide), up_s, hq 13 (by decide)]
  · rw [k_m16 _ _ _ (by decide) (by decide), up_s]; exact hq 14 (by decide)
theorem k_bhI_c8 {n : ch_N} {T a b : Nat} {s : ch_N × ch_N} (hs : k_c8 s.1) (hw1 : ∀ s v, v < 31 → k_c8 s → k_wf (nw (k_cp s n) 2 (8 * a + b) 1 (nI v))) : ∀ v, v ≤ 31 → k_c8 (k_bhI n T a b s v).1
  | 0, _ => hs
  | v + 1, hv => by rw [k_bhI_s]; exact k_wf_c8 (k_adv_wf T _ (hw1 _ v (by omega) (k_bhI_c8 hs hw1 v (by omega))))
theorem k_bhI_G {n : ch_N} {T a b : Nat} {s : ch_N × ch_N} (hn : k_G n) (hs : k_G s.1) : ∀ v, v ≤ 31 → k_G (k_bhI n T a b s v).1
  | 0, _ => hs
  | v + 1, hv => by rw [k_bhI_s]; exact G_adv T _ (G_nw21 (k_G_ag (k_cp_ag _ _) hn) (nI_pos (by omega)))
theorem k_bhI_k {n : ch_N} {T a b : Nat} {s : ch_N × ch_N} {kd : Nat} (h : kd ≤ 16) : ∀ v, (k_bhI n T a b s v).2 kd = s.2 kd
  | 0 => rfl
  | v + 1 => by rw [k_bhI_s, k_adv_k h]; exact k_bhI_k h v
set_option maxHeartbeats 400000 in
theorem k_c_addMobile {l : Launch} {E : ch_E} {S : ch_S} {μ : ch_M} (hl : l.stackTraces = false) (hs : ch_Std E S) (h34 : S.2.1 17 34 0) (hI : k_INV μ) {x1 x2 x3 x4 : Int32} : k_Case E l S μ yL_addMobile cL_addMobile 7 [(0, 14, 17, 13)] yX12_addMobile cX12_addMobile 7 (some FieldType.int) 4 (fun _ => True) [.int x1, .int x2, .int x3, .int x4] := by
  obtain ⟨u, p, hI9⟩ := hI
  have hI8 := hI9
  obtain ⟨hp, hu, ha, hb, hJ, hC⟩ := hI8
  have hN := r_J_n hJ
  have hw : k_wf (μ 0) := hN.2.2.2.2.2
  have hm12 := hw.1
  have hc8 := hw.2.1
  have hN9 : ∀ r, r_N (μ 0) ((ch_st μ 17 34 0 0 r) 16 23 0) := fun r => by rw [st17 _ _ (by decide)]; exact hN
  have hJ9 : ∀ r, r_J (μ 0) (μ 2) (μ 15) (μ 15 11 0 7) u (k_ring μ p u) ((ch_st μ 17 34 0 0 r) 16) := fun r => by rw [st17 _ _ (by decide)]; exact hJ
  by_cases q0 : (k_rg 0 999 x1) ∧ (k_rg 0 999 x2) ∧ (k_rg (-99) 99 x3) ∧ (k_rg (-99) 99 x4)
  · have e2 : μ 0 0 0 2 = nI (k_mc (μ 0)) := (nI_cn hN.2.1.2.1.2.2.2.2).symm
    by_cases hM : k_mc (μ 0) < 12
    · refine ⟨0, ch_st (up (k_rcm μ p) 0 (k_amN (μ 0) (k_mc (μ 0)) x1 x2 x3 x4)) 17 34 0 0 (nI (k_mc (μ 0))), 6, 0, 0, by decide, by decide, by decide, c_L_addMobile hs h34 (ch_C_imp (c_X11_addMobile hs q0.1 q0.2.1 q0.2.2.1 q0.2.2.2 hp hb e2 hM) (k_Ok_F hs)), fun S' hs' => ch_C_imp (c_X12_addMobile hs' (by rw [st17 _ _ (by decide), up_n (by decide), INV_rcm16 hp]; exact hJ) q0.1 q0.2.1 q0.2.2.1 q0.2.2.2 hM) (k_RfA (INV_w hI9 (G_amN (hC 0 (by decide)).2 _ _ _ _ _)))⟩
    · refine ⟨0, ch_st (μ) 17 34 0 0 (-2), 6, 0, 0, by decide, by decide, by decide, c_L_addMobile hs h34 (ch_C_imp (c_X11_addMobileF hs q0.1 q0.2.1 q0.2.2.1 q0.2.2.2 (by rw [e2]; exact nI_nlt (b := 12) (by omega) (by have := cn_lt31 (μ 0 0 0 2); unfold k_mc; omega))) (k_Ok_F hs)), fun S' hs' => ch_C_imp (c_X12_addMobileF hs' (hN9 _) q0.1 q0.2.1 q0.2.2.1 q0.2.2.2 hM) (k_RfF hI9 trivial)⟩
  · exact ⟨1, μ, 9, 1, 6, by decide, by decide, by decide, ch_CW_imp (c_L_addMobile_ia hs (c_X11_addMobile_t1 hl hs q0)) (k_Ok_F hs), fun S' hs' => ch_C_imp (c_X12_addMobileR hs' q0) (k_RfT hI9 (by decide) trivial)⟩
set_option maxHeartbeats 400000 in
theorem k_c_setVelocity {l : Launch} {E : ch_E} {S : ch_S} {μ : ch_M} (hl : l.stackTraces = false) (hs : ch_Std E S) (h34 : S.2.1 17 34 0) (hI : k_INV μ) {x1 x2 x3 : Int32} : k_Case E l S μ yL_setVelocity cL_setVelocity 6 [(0, 12, 15, 19), (0, 12, 19, 13)] yX12_setVelocity cX12_setVelocity 5 (some FieldType.int) 4 (fun _ => True) [.int x1, .int x2, .int x3] := by
  obtain ⟨u, p, hI9⟩ := hI
  have hI8 := hI9
  obtain ⟨hp, hu, ha, hb, hJ, hC⟩ := hI8
  have hN := r_J_n hJ
  have hw : k_wf (μ 0) := hN.2.2.2.2.2
  have hm12 := hw.1
  have hc8 := hw.2.1
  have hN9 : ∀ r, r_N (μ 0) ((ch_st μ 17 34 0 0 r) 16 23 0) := fun r => by rw [st17 _ _ (by decide)]; exact hN
  have hJ9 : ∀ r, r_J (μ 0) (μ 2) (μ 15) (μ 15 11 0 7) u (k_ring μ p u) ((ch_st μ 17 34 0 0 r) 16) := fun r => by rw [st17 _ _ (by decide)]; exact hJ
  by_cases q0 : k_ism (μ 0) x1
  · obtain ⟨m, hm, rfl⟩ := k_ism_e.mp q0
    by_cases q1 : (k_rg (-99) 99 x2) ∧ (k_rg (-99) 99 x3)
    · refine ⟨0, ch_st (up (k_rcm μ p) 0 (nw (nw (μ 0) 3 m 2 x2) 3 m 3 x3)) 17 34 0 0 (μ 0 3 m 4), 6, 0, 0, by decide, by decide, by decide, c_L_setVelocity hs h34 (ch_C_imp (c_X11_setVelocity hs hm12 hm q1.1 q1.2 hp hb) (k_Ok_F hs)), fun S' hs' => ch_C_imp (c_X12_setVelocity hs' (by rw [st17 _ _ (by decide), up_n (by decide), INV_rcm16 hp]; exact hJ) hm q1.1 q1.2) (k_RfA (INV_w hI9 (G_nw3 (G_nw3 (hC 0 (by decide)).2 (by decide) _) (by decide) _)))⟩
    · exact ⟨2, μ, 9, 1, 6, by decide, by decide, by decide, ch_CW_imp (c_L_setVelocity_ia hs (c_X11_setVelocity_t2 hl hs q0 q1)) (k_Ok_F hs), fun S' hs' => ch_C_imp (c_X12_setVelocityR hs' hN hm q1) (k_RfT hI9 (by decide) trivial)⟩
  · exact ⟨1, μ, 9, 1, 6, by decide, by decide, by decide, ch_CW_imp (c_L_setVelocity_ns hs (c_X11_setVelocity_t1 hl hs q0)) (k_Ok_F hs), fun S' hs' => ch_C_imp (c_X12_setVelocityN hs' hN (fun z => q0 (k_ism_e.mpr z))) (k_RfT hI9 (by decide) trivial)⟩
set_option maxHeartbeats 400000 in
theorem k_c_call {l : Launch} {E : ch_E} {S : ch_S} {μ : ch_M} (hl : l.stackTraces = false) (hs : ch_Std E S) (h34 : S.2.1 17 34 0) (hI : k_INV μ) {x1 x2 : Int32} : k_Case E l S μ yL_call cL_call 5 [(0, 10, 13, 19), (0, 10, 17, 13)] yX12_call cX12_call 5 (some FieldType.int) 6 (fun _ => True) [.int x1, .int x2] := by
  obtain ⟨u, p, hI9⟩ := hI
  have hI8 := hI9
  obtain ⟨hp, hu, ha, hb, hJ, hC⟩ := hI8
  have hN := r_J_n hJ
  have hw : k_wf (μ 0) := hN.2.2.2.2.2
  have hm12 := hw.1
  have hc8 := hw.2.1
  have hN9 : ∀ r, r_N (μ 0) ((ch_st μ 17 34 0 0 r) 16 23 0) := fun r => by rw [st17 _ _ (by decide)]; exact hN
  have hJ9 : ∀ r, r_J (μ 0) (μ 2) (μ 15) (μ 15 11 0 7) u (k_ring μ p u) ((ch_st μ 17 34 0 0 r) 16) := fun r => by rw [st17 _ _ (by decide)]; exact hJ
  by_cases q0 : k_ism (μ 0) x1
  · obtain ⟨m, hm, rfl⟩ := k_ism_e.mp q0
    by_cases q1 : k_rg 1 500 x2
    · by_cases h0 : μ 0 3 m 4 = 0
      · rcases r_cov (n := μ 0) (μ 0 3 m 0) (μ 0 3 m 1) with hv | ⟨s, hsc, hv⟩
        · refine ⟨0, ch_st (μ) 17 34 0 0 (-4), 7, 0, 0, by decide, by decide, by decide, c_L_call hs h34 (ch_C_imp (c_X11_callU hs hw hm q1 h0 hv) (k_Ok_F hs)), fun S' hs' => ch_C_imp (c_X12_callU hs' (hN9 _) hm q1 h0 hv) (k_RfF hI9 trivial)⟩
        · refine ⟨0, ch_st (up (k_rcm μ p) 0 ((k_su (μ 0) m x2 (nI s)).2)) 17 34 0 0 ((k_su (μ 0) m x2 (nI s)).1), 7, 0, 0, by decide, by decide, by decide, c_L_call hs h34 (ch_C_imp (c_X11_call hs hw hm q1 h0 (by omega) hv hp hb) (k_Ok_F hs)), fun S' hs' => ch_C_imp (c_X12_call hs' (by rw [st17 _ _ (by decide), up_n (by decide), INV_rcm16 hp]; exact hJ) hm q1 h0 hsc hv ((hC 0 (by decide)).2.1 m (by omega) h0)) (k_RfA (INV_w hI9 (G_su (hC 0 (by decide)).2 _ _ _)))⟩
      · refine ⟨0, ch_st (μ) 17 34 0 0 (-2), 7, 0, 0, by decide, by decide, by decide, c_L_call hs h34 (ch_C_imp (c_X11_callB hs hw hm q1 h0) (k_Ok_F hs)), fun S' hs' => ch_C_imp (c_X12_callB hs' (hN9 _) hm q1 h0) (k_RfF hI9 trivial)⟩
    · exact ⟨2, μ, 9, 1, 6, by decide, by decide, by decide, ch_CW_imp (c_L_call_ia hs (c_X11_call_t2 hl hs q0 q1)) (k_Ok_F hs), fun S' hs' => ch_C_imp (c_X12_callR hs' hN hm q1) (k_RfT hI9 (by decide) trivial)⟩
  · exact ⟨1, μ, 9, 1, 6, by decide, by decide, by decide, ch_CW_imp (c_L_call_ns hs (c_X11_call_t1 hl hs q0)) (k_Ok_F hs), fun S' hs' => ch_C_imp (c_X12_callN hs' hN (fun z => q0 (k_ism_e.mpr z))) (k_RfT hI9 (by decide) trivial)⟩
set_option maxHeartbeats 400000 in
theorem k_c_hangUp {l : Launch} {E : ch_E} {S : ch_S} {μ : ch_M} (hl : l.stackTraces = false) (hs : ch_Std E S) (h34 : S.2.1 17 34 0) (hI : k_INV μ) {x1 : Int32} : k_Case E l S μ yL_hangUp cL_hangUp 4 [(0, 9, 12, 19)] yX12_hangUp cX12_hangUp 3 (some FieldType.int) 4 (fun _ => True) [.int x1] := by
  obtain ⟨u, p, hI9⟩ := hI
  have hI8 := hI9
  obtain ⟨hp, hu, ha, hb, hJ, hC⟩ := hI8
  have hN := r_J_n hJ
  have hw : k_wf (μ 0) := hN.2.2.2.2.2
  have hm12 := hw.1
  have hc8 := hw.2.1
  have hN9 : ∀ r, r_N (μ 0) ((ch_st μ 17 34 0 0 r) 16 23 0) := fun r => by rw [st17 _ _ (by decide)]; exact hN
  have hJ9 : ∀ r, r_J (μ 0) (μ 2) (μ 15) (μ 15 11 0 7) u (k_ring μ p u) ((ch_st μ 17 34 0 0 r) 16) := fun r => by rw [st17 _ _ (by decide)]; exact hJ
  by_cases q0 : k_ism (μ 0) x1
  · obtain ⟨m, hm, rfl⟩ := k_ism_e.mp q0
    by_cases h0 : μ 0 3 m 4 = 0
    · refine ⟨0, ch_st (μ) 17 34 0 0 (-2), 6, 0, 0, by decide, by decide, by decide, c_L_hangUp hs h34 (ch_C_imp (c_X11_hangUpI hs hm12 hm h0) (k_Ok_F hs)), fun S' hs' => ch_C_imp (c_X12_hangUpI hs' (hN9 _) hm h0) (k_RfF hI9 trivial)⟩
    · refine ⟨0, ch_st (up (k_rcm μ p) 0 (k_idle (μ 0) m)) 17 34 0 0 (μ 0 3 m 4), 6, 0, 0, by decide, by decide, by decide, c_L_hangUp hs h34 (ch_C_imp (c_X11_hangUp hs hm12 hm h0 hp hb) (k_Ok_F hs)), fun S' hs' => ch_C_imp (c_X12_hangUp hs' (by rw [st17 _ _ (by decide), up_n (by decide), INV_rcm16 hp]; exact hJ) hm h0) (k_RfA (INV_w hI9 (G_idle (hC 0 (by decide)).2 _)))⟩
  · exact ⟨1, μ, 9, 1, 6, by decide, by decide, by decide, ch_CW_imp (c_L_hangUp_ns hs (c_X11_hangUp_t1 hl hs q0)) (k_Ok_F hs), fun S' hs' => ch_C_imp (c_X12_hangUpN hs' hN (fun z => q0 (k_ism_e.mpr z))) (k_RfT hI9 (by decide) trivial)⟩
set_option maxHeartbeats 400000 in
theorem k_c_setHysteresis {l : Launch} {E : ch_E} {S : ch_S} {μ : ch_M} (hl : l.stackTraces = false) (hs : ch_Std E S) (h34 : S.2.1 17 34 0) (hI : k_INV μ) {x1 x2 x3 : Int32} : k_Case E l S μ yL_setHysteresis cL_setHysteresis 6 [(0, 12, 15, 19), (0, 12, 19, 13)] yX12_setHysteresis cX12_setHysteresis 5 (some FieldType.int) 4 (fun _ => True) [.int x1, .int x2, .int x3] := by
  obtain ⟨u, p, hI9⟩ := hI
  have hI8 := hI9
  obtain ⟨hp, hu, ha, hb, hJ, hC⟩ := hI8
  have hN := r_J_n hJ
  have hw : k_wf (μ 0) := hN.2.2.2.2.2
  have hm12 := hw.1
  have hc8 := hw.2.1
  have hN9 : ∀ r, r_N (μ 0) ((ch_st μ 17 34 0 0 r) 16 23 0) := fun r => by rw [st17 _ _ (by decide)]; exact hN
  have hJ9 : ∀ r, r_J (μ 0) (μ 2) (μ 15) (μ 15 11 0 7) u (k_ring μ p u) ((ch_st μ 17 34 0 0 r) 16) := fun r => by rw [st17 _ _ (by decide)]; exact hJ
  by_cases q0 : (k_isc (μ 0) x1) ∧ (k_isc (μ 0) x2)
  · obtain ⟨z1, z2⟩ := q0
    by_cases q1 : k_rg 0 30 x3
    · obtain ⟨a, ha, rfl⟩ := k_isc_e.mp z1
      obtain ⟨b, hbb, rfl⟩ := k_isc_e.mp z2
      by_cases hex : μ 0 2 (8 * a + b) 0 = 0
      · refine ⟨0, ch_st (μ) 17 34 0 0 (-2), 6, 0, 0, by decide, by decide, by decide, c_L_setHysteresis hs h34 (ch_C_imp (c_X11_setHysteresisM hs hc8 ha hbb q1 hex) (k_Ok_F hs)), fun S' hs' => ch_C_imp (c_X12_setHysteresisM hs' (hN9 _) ha hbb q1 hex) (k_RfF hI9 trivial)⟩
      · refine ⟨0, ch_st (up (k_rcm μ p) 0 (nw (μ 0) 2 (8 * a + b) 1 x3)) 17 34 0 0 (μ 0 2 (8 * a + b) 1), 6, 0, 0, by decide, by decide, by decide, c_L_setHysteresis hs h34 (ch_C_imp (c_X11_setHysteresis hs hc8 ha hbb q1 hex hp hb) (k_Ok_F hs)), fun S' hs' => ch_C_imp (c_X12_setHysteresis hs' (by rw [st17 _ _ (by decide), up_n (by decide), INV_rcm16 hp]; exact hJ) ha hbb q1 hex (fun z => (hC 0 (by decide)).2.2 (8 * a + b) (by omega) (by rw [z]; decide))) (k_RfA (INV_w hI9 (G_nw21 (hC 0 (by decide)).2 q1.1)))⟩
    · exact ⟨2, μ, 9, 1, 6, by decide, by decide, by decide, ch_CW_imp (c_L_setHysteresis_ia hs (c_X11_setHysteresis_t2 hl hs z1 z2 q1)) (k_Ok_F hs), fun S' hs' => ch_C_imp ((by obtain ⟨a, ha, rfl⟩ := k_isc_e.mp z1; obtain ⟨b, hbb, rfl⟩ := k_isc_e.mp z2; exact c_X12_setHysteresisR hs' hN ha hbb q1)) (k_RfT hI9 (by decide) trivial)⟩
  · exact ⟨1, μ, 9, 1, 6, by decide, by decide, by decide, ch_CW_imp (c_L_setHysteresis_ns hs (c_X11_setHysteresis_t1 hl hs q0)) (k_Ok_F hs), fun S' hs' => ch_C_imp (c_X12_setHysteresisN hs' hN (fun z => q0 ⟨k_isc_e.mpr z.1, k_isc_e.mpr z.2⟩)) (k_RfT hI9 (by decide) trivial)⟩
set_option maxHeartbeats 400000 in
theorem k_c_run {l : Launch} {E : ch_E} {S : ch_S} {μ : ch_M} (hl : l.stackTraces = false) (hs : ch_Std E S) (h34 : S.2.1 17 34 0) (hI : k_INV μ) {x1 : Int32} : k_Case E l S μ yL_run cL_run 4 [(0, 9, 12, 13)] yX12_run cX12_run 3 (some FieldType.int) 9 (fun _ => True) [.int x1] := by
  obtain ⟨u, p, hI9⟩ := hI
  have hI8 := hI9
  obtain ⟨hp, hu, ha, hb, hJ, hC⟩ := hI8
  have hN := r_J_n hJ
  have hw : k_wf (μ 0) := hN.2.2.2.2.2
  have hm12 := hw.1
  have hc8 := hw.2.1
  have hN9 : ∀ r, r_N (μ 0) ((ch_st μ 17 34 0 0 r) 16 23 0) := fun r => by rw [st17 _ _ (by decide)]; exact hN
  have hJ9 : ∀ r, r_J (μ 0) (μ 2) (μ 15) (μ 15 11 0 7) u (k_ring μ p u) ((ch_st μ 17 34 0 0 r) 16) := fun r => by rw [st17 _ _ (by decide)]; exact hJ
  by_cases q0 : k_tk9 (μ 0) 60 x1
  · obtain ⟨T, c0, rfl, hT, hc0, hcT⟩ := k_tk9_n hN.2.1.2 (M := 60) rfl (by decide) q0
    refine ⟨0, ch_st (up (up (k_rcm μ p) 0 (k_adv T (μ 0, k_rec (μ 15))).1) 15 (k_adv T (μ 0, k_rec (μ 15))).2) 17 34 0 0 ((k_adv T (μ 0, k_rec (μ 15))).1 7 0 0 - μ 0 7 0 0), 8, 0, 0, by decide, by decide, by decide, c_L_run hs h34 (ch_C_imp (c_X11_run hs hw hT q0 hp hb) (k_Ok_F hs)), fun S' hs' => ch_C_imp (c_X12_run hs' (by rw [st17 _ _ (by decide), up_n (by decide), up_n (by decide), INV_rcm16 hp]; exact hJ) (q := k_rec (μ 15)) hT hc0 hcT) (k_RfA (fun P hJ2 => INV_rec0 hI9 (fun kd hk => k_adv_k hk _ _) ⟨J_c8 hJ2, G_adv _ _ (hC 0 (by decide)).2⟩ P hJ2))⟩
  · exact ⟨1, μ, 9, 1, 6, by decide, by decide, by decide, ch_CW_imp (c_L_run_ia hs (c_X11_run_t1 hl hs q0)) (k_Ok_F hs), fun S' hs' => ch_C_imp (c_X12_runN hs' hN (fun z => q0 (k_tk9_of hN.2.1.2 (M := 60) rfl (by decide) z))) (k_RfT hI9 (by decide) trivial)⟩
set_option maxHeartbeats 400000 in
theorem k_c_forecastCell {l : Launch} {E : ch_E} {S : ch_S} {μ : ch_M} (hl : l.stackTraces = false) (hs : ch_Std E S) (h34 : S.2.1 17 34 0) (hI : k_INV μ) {x1 x2 : Int32} : k_Case E l S μ yL_forecastCell cL_forecastCell 5 [(0, 10, 13, 19), (0, 10, 17, 13)] yX12_forecastCell cX12_forecastCell 4 (some FieldType.int) 9 (fun _ => True) [.int x1, .int x2] := by
  obtain ⟨u, p, hI9⟩ := hI
  have hI8 := hI9
  obtain ⟨hp, hu, ha, hb, hJ, hC⟩ := hI8
  have hN := r_J_n hJ
  have hw : k_wf (μ 0) := hN.2.2.2.2.2
  have hm12 := hw.1
  have hc8 := hw.2.1
  have hN9 : ∀ r, r_N (μ 0) ((ch_st μ 17 34 0 0 r) 16 23 0) := fun r => by rw [st17 _ _ (by decide)]; exact hN
  have hJ9 : ∀ r, r_J (μ 0) (μ 2) (μ 15) (μ 15 11 0 7) u (k_ring μ p u) ((ch_st μ 17 34 0 0 r) 16) := fun r => by rw [st17 _ _ (by decide)]; exact hJ
  by_cases q0 : k_ism (μ 0) x1
  · by_cases q1 : k_tk9 (μ 0) 60 x2
    · obtain ⟨m, hm, rfl⟩ := k_ism_e.mp q0
      obtain ⟨T, c0, rfl, hT, hc0, hcT⟩ := k_tk9_n hN.2.1.2 (M := 60) rfl (by decide) q1
      have hcc := k_cp_c8 (hC 1 (by decide)).1 (hC 0 (by decide)).1
      have hw1 := k_wf_ag (k_cp_ag (μ 1) (μ 0)) hcc hw
      refine ⟨0, ch_st (up (up μ 1 (k_adv T (k_cp (μ 1) (μ 0), μ 15)).1) 15 (k_adv T (k_cp (μ 1) (μ 0), μ 15)).2) 17 34 0 0 ((k_adv T (k_cp (μ 1) (μ 0), μ 15)).1 3 m 5), 8, 0, 0, by decide, by decide, by decide, c_L_forecastCell hs h34 (ch_C_imp (c_X11_forecastCell hs hw hw1 hm hT q1) (k_Ok_F hs)), fun S' hs' => ch_C_imp (c_X12_forecastCell hs' (by rw [st17 _ _ (by decide), up_n (by decide), up_n (by decide)]; exact hJ) (n1 := k_cp (μ 1) (μ 0)) (q := μ 15) (by rw [st17 _ _ (by decide), up_n (by decide), up_n (by decide)]; exact r_N_ag (k_cp_ag _ _) hcc hN) hm hT hc0 hcT) (k_RfA (INV_tr hI9 (fun kd hk => k_adv_k hk _ _) ⟨k_wf_c8 (k_adv_wf _ _ hw1), G_adv _ _ (k_G_ag (k_cp_ag _ _) (hC 0 (by decide)).2)⟩))⟩
    · exact ⟨2, μ, 9, 1, 6, by decide, by decide, by decide, ch_CW_imp (c_L_forecastCell_ia hs (c_X11_forecastCell_t2 hl hs q0 q1)) (k_Ok_F hs), fun S' hs' => ch_C_imp ((by obtain ⟨m, hm, rfl⟩ := k_ism_e.mp q0; exact c_X12_forecastCellR hs' hN hm (fun z => q1 (k_tk9_of hN.2.1.2 (M := 60) rfl (by decide) z)))) (k_RfT hI9 (by decide) trivial)⟩
  · exact ⟨1, μ, 9, 1, 6, by decide, by decide, by decide, ch_CW_imp (c_L_forecastCell_ns hs (c_X11_forecastCell_t1 hl hs q0)) (k_Ok_F hs), fun S' hs' => ch_C_imp (c_X12_forecastCellN hs' hN (fun z => q0 (k_ism_e.mpr z))) (k_RfT hI9 (by decide) trivial)⟩
set_option maxHeartbeats 400000 in
theorem k_c_bestHysteresis {l : Launch} {E : ch_E} {S : ch_S} {μ : ch_M} (hl : l.stackTraces = false) (hs : ch_Std E S) (h34 : S.2.1 17 34 0) (hI : k_INV μ) {x1 x2 x3 : Int32} : k_Case E l S μ yL_bestHysteresis cL_bestHysteresis 6 [(0, 12, 15, 19), (0, 12, 19, 13)] yX12_bestHysteresis cX12_bestHysteresis 11 (some FieldType.int) 9 (fun _ => True) [.int x1, .int x2, .int x3] := by
  obtain ⟨u, p, hI9⟩ := hI
  have hI8 := hI9
  obtain ⟨hp, hu, ha, hb, hJ, hC⟩ := hI8
  have hN := r_J_n hJ
  have hw : k_wf (μ 0) := hN.2.2.2.2.2
  have hm12 := hw.1
  have hc8 := hw.2.1
  have hN9 : ∀ r, r_N (μ 0) ((ch_st μ 17 34 0 0 r) 16 23 0) := fun r => by rw [st17 _ _ (by decide)]; exact hN
  have hJ9 : ∀ r, r_J (μ 0) (μ 2) (μ 15) (μ 15 11 0 7) u (k_ring μ p u) ((ch_st μ 17 34 0 0 r) 16) := fun r => by rw [st17 _ _ (by decide)]; exact hJ
  by_cases q0 : (k_isc (μ 0) x1) ∧ (k_isc (μ 0) x2)
  · obtain ⟨z1, z2⟩ := q0
    by_cases q1 : k_tk9 (μ 0) 30 x3
    · obtain ⟨a, ha, rfl⟩ := k_isc_e.mp z1
      obtain ⟨b, hbb, rfl⟩ := k_isc_e.mp z2
      obtain ⟨T, c0, rfl, hT, hc0, hcT⟩ := k_tk9_n hN.2.1.2 (M := 30) rfl (by decide) q1
      by_cases hex : μ 0 2 (8 * a + b) 0 = 0
      · refine ⟨0, ch_st (μ) 17 34 0 0 (-2), 8, 0, 0, by decide, by decide, by decide, c_L_bestHysteresis hs h34 (ch_C_imp (c_X11_bestHysteresisM hs hc8 ha hbb hT q1 hex) (k_Ok_F hs)), fun S' hs' => ch_C_imp (c_X12_bestHysteresisM hs' (hN9 _) ha hbb hT hc0 hcT hex) (k_RfF hI9 trivial)⟩
      · have hw1 : ∀ s v, v < 31 → k_c8 s → k_wf (nw (k_cp s (μ 0)) 2 (8 * a + b) 1 (nI v)) := fun s v _ hc => nw2_wf (k_wf_ag (k_cp_ag s (μ 0)) (k_cp_c8 hc (hC 0 (by decide)).1) hw) _ _ _
        have hcI := k_bhI_c8 (T := T) (s := (μ 1, μ 15)) (hC 1 (by decide)).1 hw1
        have hJx : ∀ r, r_J (μ 0) (μ 2) (μ 15) (μ 15 11 0 7) u (k_ring μ p u) ((ch_st (up (up μ 1 (k_bhI (μ 0) T a b (μ 1, μ 15) 31).1) 15 (k_bhI (μ 0) T a b (μ 1, μ 15) 31).2) 17 34 0 0 r) 16) := fun r => by rw [st17 _ _ (by decide), up_n (by decide), up_n (by decide)]; exact hJ
        refine ⟨0, ch_st (up (up μ 1 (k_bhI (μ 0) T a b (μ 1, μ 15) 31).1) 15 (k_bhI (μ 0) T a b (μ 1, μ 15) 31).2) 17 34 0 0 ((r_bh (k_bhD (μ 0) T a b (μ 1, μ 15)) (k_bhH (μ 0) T a b (μ 1, μ 15)) 31).1), 8, 0, 0, by decide, by decide, by decide, c_L_bestHysteresis hs h34 (ch_C_imp (c_X11_bestHysteresis hs hc8 ha hbb hT q1 hw1 (hC 1 (by decide)).1 hex) (k_Ok_F hs)), fun S' hs' => ch_C_imp (c_X12_bestHysteresis hs' (hJx _) ha hbb hT hc0 hcT hex (D := (k_bhD (μ 0) T a b (μ 1, μ 15))) (H := (k_bhH (μ 0) T a b (μ 1, μ 15))) (fun v hv => ⟨k_cp (k_bhI (μ 0) T a b (μ 1, μ 15) v).1 (μ 0), (k_bhI (μ 0) T a b (μ 1, μ 15) v).2, r_N_ag (k_cp_ag _ _) (k_cp_c8 (hcI v (by omega)) (hC 0 (by decide)).1) (r_J_n (hJx _)), rfl, rfl⟩)) (k_RfA (INV_tr hI9 (fun kd hk => k_bhI_k hk 31) ⟨hcI 31 (by decide), k_bhI_G (hC 0 (by decide)).2 (hC 1 (by decide)).2 31 (by decide)⟩))⟩
    · exact ⟨2, μ, 9, 1, 6, by decide, by decide, by decide, ch_CW_imp (c_L_bestHysteresis_ia hs (c_X11_bestHysteresis_t2 hl hs z1 z2 q1)) (k_Ok_F hs), fun S' hs' => ch_C_imp ((by obtain ⟨a, ha, rfl⟩ := k_isc_e.mp z1; obtain ⟨b, hbb, rfl⟩ := k_isc_e.mp z2; exact c_X12_bestHysteresisR hs' hN ha hbb (fun z => q1 (k_tk9_of hN.2.1.2 (M := 30) rfl (by decide) z)))) (k_RfT hI9 (by decide) trivial)⟩
  · exact ⟨1, μ, 9, 1, 6, by decide, by decide, by decide, ch_CW_imp (c_L_bestHysteresis_ns hs (c_X11_bestHysteresis_t1 hl hs q0)) (k_Ok_F hs), fun S' hs' => ch_C_imp (c_X12_bestHysteresisN hs' hN (fun z => q0 ⟨k_isc_e.mpr z.1, k_isc_e.mpr z.2⟩)) (k_RfT hI9 (by decide) trivial)⟩
set_option maxHeartbeats 400000 in
theorem k_c_candidate {l : Launch} {E : ch_E} {S : ch_S} {μ : ch_M} (hl : l.stackTraces = false) (hs : ch_Std E S) (h34 : S.2.1 17 34 0) (hI : k_INV μ) {x1 x2 : Int32} : k_Case E l S μ yL_candidate cL_candidate 5 [(0, 10, 13, 19)] yX12_candidate cX12_candidate 3 (some FieldType.int) 6 (fun _ => True) [.int x1, .int x2] := by
  obtain ⟨u, p, hI9⟩ := hI
  have hI8 := hI9
  obtain ⟨hp, hu, ha, hb, hJ, hC⟩ := hI8
  have hN := r_J_n hJ
  have hw : k_wf (μ 0) := hN.2.2.2.2.2
  have hm12 := hw.1
  have hc8 := hw.2.1
  have hN9 : ∀ r, r_N (μ 0) ((ch_st μ 17 34 0 0 r) 16 23 0) := fun r => by rw [st17 _ _ (by decide)]; exact hN
  have hJ9 : ∀ r, r_J (μ 0) (μ 2) (μ 15) (μ 15 11 0 7) u (k_ring μ p u) ((ch_st μ 17 34 0 0 r) 16) := fun r => by rw [st17 _ _ (by decide)]; exact hJ
  by_cases q0 : (k_ism (μ 0) x1) ∧ (¬ x2 < 0)
  · obtain ⟨q1, q2⟩ := q0
    obtain ⟨m, hm, rfl⟩ := k_ism_e.mp q1
    have em : k_ix 12 12 (nI m) = m := k_mob (by omega)
    refine ⟨0, ch_st (up μ 15 (k_rank (μ 0) (μ 15) m)) 17 34 0 0 (k_car (k_rank (μ 0) (μ 15) m) x2), 6, 0, 0, by decide, by decide, by decide, c_L_candidate hs h34 (ch_C_imp (by have h9 := c_X11_candidate (l := l) hs hw hm q2; rw [em] at h9; exact h9) (k_Ok_F hs)), fun S' hs' => ch_C_imp (c_X12_candidate hs' (by rw [st17 _ _ (by decide), up_n (by decide)]; exact hJ) (q := μ 15) hm q2) (k_RfA (INV_15 hI9 (fun kd hk => k_rank_k _ _ _ hk)))⟩
  · exact ⟨1, μ, 9, 1, 6, by decide, by decide, by decide, ch_CW_imp (c_L_candidate_ns hs (c_X11_candidate_t1 hl hs q0)) (k_Ok_F hs), fun S' hs' => ch_C_imp (c_X12_candidateN hs' hN (fun z => q0 ⟨k_ism_e.mpr z.1, z.2⟩)) (k_RfT hI9 (by decide) trivial)⟩
set_option maxHeartbeats 400000 in
theorem k_c_missingRelation {l : Launch} {E : ch_E} {S : ch_S} {μ : ch_M} (hl : l.stackTraces = false) (hs : ch_Std E S) (h34 : S.2.1 17 34 0) (hI : k_INV μ) {x1 : Int32} : k_Case E l S μ yL_missingRelation cL_missingRelation 4 [(0, 9, 12, 13)] yX12_missingRelation cX12_missingRelation 4 (some FieldType.int) 6 (fun _ => True) [.int x1] := by
  obtain ⟨u, p, hI9⟩ := hI
  have hI8 := hI9
  obtain ⟨hp, hu, ha, hb, hJ, hC⟩ := hI8
  have hN := r_J_n hJ
  have hw : k_wf (μ 0) := hN.2.2.2.2.2
  have hm12 := hw.1
  have hc8 := hw.2.1
  have hN9 : ∀ r, r_N (μ 0) ((ch_st μ 17 34 0 0 r) 16 23 0) := fun r => by rw [st17 _ _ (by decide)]; exact hN
  have hJ9 : ∀ r, r_J (μ 0) (μ 2) (μ 15) (μ 15 11 0 7) u (k_ring μ p u) ((ch_st μ 17 34 0 0 r) 16) := fun r => by rw [st17 _ _ (by decide)]; exact hJ
  by_cases q0 : k_rg 0 30 x1
  · refine ⟨0, ch_st (up μ 15 (k_nrA (μ 0) x1 28 (na (μ 15) 21 0 (fun _ => 0)))) 17 34 0 0 (k_fm (μ 0) (μ 15) x1), 6, 0, 0, by decide, by decide, by decide, c_L_missingRelation hs h34 (ch_C_imp (c_X11_missingRelation hs hc8 q0) (k_Ok_F hs)), fun S' hs' => ch_C_imp (c_X12_missingRelation hs' (by rw [st17 _ _ (by decide), up_n (by decide)]; exact hN) (q := μ 15) q0) (k_RfF (k_Iv_15 hI9 (fun kd hk => by rw [k_nrA_k (by omega), na_k (by omega)])) trivial)⟩
  · exact ⟨1, μ, 9, 1, 6, by decide, by decide, by decide, ch_CW_imp (c_L_missingRelation_ia hs (c_X11_missingRelation_t1 hl hs q0)) (k_Ok_F hs), fun S' hs' => ch_C_imp (c_X12_missingRelationR hs' q0) (k_RfT hI9 (by decide) trivial)⟩
