/-! load, query, and the calls that the law makes itself -/
theorem up3_0 {μ : ch_M} {A B : ch_N} {k : Nat} (h1 : k ≠ 1) (h5 : k ≠ 15) : up (up μ 1 A) 15 B k = μ k := by rw [up_n h5, up_n h1]
theorem INV_ldE {μ : ch_M} {u p : Nat} (h : k_Iv μ u p) {T Q : ch_N} (hQ : t_o (μ 15) Q) (hT : k_c8 T ∧ k_G T) {r : Int32} : ∀ P, r_J (μ 0) (μ 2) Q (μ 15 11 0 7) u (k_ring μ p u) P → k_INV (up (ch_st (up (up μ 1 T) 15 Q) 17 34 0 0 r) 16 P) := by
  intro P hJ
  obtain ⟨a1, a2, a3, a4, a5, a6⟩ := h
  have e15 : ∀ kd, up (ch_st (up (up μ 1 T) 15 Q) 17 34 0 0 r) 16 P 15 kd = Q kd := fun kd => by rw [k_m16 _ _ _ (by decide) (by decide), up_s]
  have ek : ∀ k, k ≠ 1 → k < 15 → up (ch_st (up (up μ 1 T) 15 Q) 17 34 0 0 r) 16 P k = μ k := fun k h1 h2 => by rw [k_m16 _ _ _ (by omega) (by omega), up3_0 h1 (by omega)]
  refine ⟨u, p, k_Iv_of a1 a2 ?_ ?_ (hJ := by rw [up_s]; exact hJ) ?_ (fun w z => ?_) (fun _ w z => ?_) ?_ ?_ ?_ (fun i hi w z => ?_) (fun k hk => ?_)⟩
  · rw [e15, hQ 14 (by decide)]; exact a3
  · rw [e15, hQ 14 (by decide)]; exact a4
  · rw [e15, hQ 11 (by decide)]
  · rw [ek 0 (by decide) (by decide)]; exact z
  · rw [ek 2 (by decide) (by decide)]; exact z
  · rw [e15]
  · rw [e15]
  · rw [e15]
  · unfold k_ring at z ⊢
    rw [ek _ (by omega) (by omega)]; exact z
  · by_cases e : k = 1
    · subst e; rw [k_m16 _ _ _ (by decide) (by decide), up_n (by decide), up_s]; exact hT
    · rw [ek k e hk]; exact a6 k hk
theorem INV_ldS {μ : ch_M} {u p : Nat} (h : k_Iv μ u p) {T Q : ch_N} (hQ : t_o (μ 15) Q) (hT : k_c8 T ∧ k_G T) {hst : Nat → ch_N} {r : Int32} : ∀ P, r_J T (μ 2) Q (μ 15 11 0 7) 0 hst P → k_INV (up (ch_st (up (up (up μ 1 T) 0 (k_cp (μ 0) T)) 15 (nw Q 14 0 0 0)) 17 34 0 0 r) 16 P) := by
  intro P hJ
  obtain ⟨a1, a2, a3, a4, a5, a6⟩ := h
  obtain ⟨M, hM⟩ : ∃ z, z = up (ch_st (up (up (up μ 1 T) 0 (k_cp (μ 0) T)) 15 (nw Q 14 0 0 0)) 17 34 0 0 r) 16 P := ⟨_, rfl⟩
  rw [← hM]
  have e15 : M 15 = nw Q 14 0 0 0 := by rw [hM, k_m16 _ _ _ (by decide) (by decide), up_s]
  have e0 : M 0 = k_cp (μ 0) T := by rw [hM, k_m16 _ _ _ (by decide) (by decide), up_n (by decide), up_s]
  have e1 : M 1 = T := by rw [hM, k_m16 _ _ _ (by decide) (by decide), up_n (by decide), up_n (by decide), up_s]
  have ek : ∀ k, 2 ≤ k → k < 15 → M k = μ k := fun k h1 h2 => by rw [hM, k_m16 _ _ _ (by omega) (by omega), up_n (by omega), up_n (by omega), up_n (by omega)]
  have h0 := a6 0 (by decide)
  have c0 := k_cp_c8 h0.1 hT.1
  refine ⟨0, p, k_Iv_of a1 (Nat.zero_le _) ?_ ?_ (hJ := by rw [hM, up_s]; exact hJ) ?_ (fun w z => ?_) (fun _ w z => ?_) ?_ ?_ ?_ (fun i hi w z => absurd hi (Nat.not_lt_zero i)) (fun k hk => ?_)⟩
  · rw [e15, nw_at, if_pos ⟨rfl, rfl, rfl⟩]; rfl
  · rw [e15, nw_at, if_neg (by decide), hQ 14 (by decide)]; exact a4
  · rw [e15, nw_k (by decide), hQ 11 (by decide)]
  · rw [e0]; exact r_N_ag (k_cp_ag _ _) c0 z
  · rw [ek 2 (by decide) (by decide)]; exact z
  · rw [e15, nw_k (by decide)]
  · rw [e15, nw_k (by decide)]
  · rw [e15, nw_k (by decide)]
  · rcases (show k = 0 ∨ k = 1 ∨ 2 ≤ k by omega) with rfl | rfl | h2
    · rw [e0]; exact ⟨c0, k_G_ag (k_cp_ag _ _) hT.2⟩
    · rw [e1]; exact hT
    · rw [ek k h2 hk]; exact a6 k hk
theorem INV_q {μ : ch_M} {u p : Nat} (h : k_Iv μ u p) {Q : ch_N} (hQ : ∀ kd, kd ≠ 12 → kd ≠ 13 → Q kd = μ 15 kd) {P : ch_N} (hJ : r_J (μ 0) (μ 2) Q (μ 15 11 0 7) u (k_ring μ p u) P) {M : ch_M} (e15 : M 15 = Q) (ek : ∀ k, k < 15 → M k = μ k) (e16 : M 16 = P) : k_INV M := by
  obtain ⟨a1, a2, a3, a4, a5, a6⟩ := h
  refine ⟨u, p, k_Iv_of a1 a2 ?_ ?_ (hJ := by rw [e16]; exact hJ) ?_ (fun w z => ?_) (fun _ w z => ?_) ?_ ?_ ?_ (fun i hi w z => ?_) (fun k hk => ?_)⟩
  · rw [e15, hQ 14 (by decide) (by decide)]; exact a3
  · rw [e15, hQ 14 (by decide) (by decide)]; exact a4
  · rw [e15, hQ 11 (by decide) (by decide)]
  · rw [ek 0 (by decide)]; exact z
  · rw [ek 2 (by decide)]; exact z
  · rw [e15]
  · rw [e15]
  · rw [e15]
  · unfold k_ring at z ⊢
    rw [ek _ (by omega)]; exact z
  · rw [ek k hk]; exact a6 k hk
theorem k_rg_n {x : Int32} {L : Nat} (h : k_rg 0 (nI L) x) : ∃ e, x = nI e ∧ e ≤ L := by
  obtain ⟨j, hj, rfl⟩ := nI_of h.1
  refine ⟨j, rfl, ?_⟩
  rcases Nat.lt_or_ge L j with y | y
  · exact absurd (nI_lt y hj) h.2
  · exact y
theorem k_min_n {L : Nat} (h : L < 2 ^ 31) : k_min (nI L) 200 = nI (min L 200) := by
  unfold k_min
  by_cases e : 200 < L
  · rw [if_pos (show (200 : Int32) < nI L from nI_lt (a := 200) e h), Nat.min_eq_right (by omega)]; rfl
  · rw [if_neg (show ¬ (200 : Int32) < nI L from nI_nlt (a := 200) (by omega) (by decide)), Nat.min_eq_left (by omega)]
set_option maxHeartbeats 400000 in
theorem k_c_load {l : Launch} {E : ch_E} {S : ch_S} {μ : ch_M} (hl : l.stackTraces = false) (hs : ch_Std E S) (h34 : S.2.1 17 34 0) (hI : k_INV μ) {x1 : Int32} : k_Case E l S μ yL_load cL_load 4 [(0, 9, 12, 13)] yX12_load cX12_load 2 (some FieldType.int) 8 (fun _ => True) [.int x1] := by
  obtain ⟨u, p, hI9⟩ := hI
  have hI8 := hI9
  obtain ⟨hp, hu, ha, hb, hJ, hC⟩ := hI8
  have hN := r_J_n hJ
  have hw : k_wf (μ 0) := hN.2.2.2.2.2
  have hm12 := hw.1
  have hc8 := hw.2.1
  have hN9 : ∀ r, r_N (μ 0) ((ch_st μ 17 34 0 0 r) 16 23 0) := fun r => by rw [st17 _ _ (by decide)]; exact hN
  have hJ9 : ∀ r, r_J (μ 0) (μ 2) (μ 15) (μ 15 11 0 7) u (k_ring μ p u) ((ch_st μ 17 34 0 0 r) 16) := fun r => by rw [st17 _ _ (by decide)]; exact hJ
  obtain ⟨L, hL7, hL, -⟩ := hJ.2.2.2
  by_cases q0 : k_rg 0 (μ 15 12 0 0) x1
  · rw [hL] at q0
    obtain ⟨e, rfl, heL⟩ := k_rg_n q0
    have hQ9 : t_o (μ 15) (t_close (l_net (t_open (μ 15) (nI e), μ 1)).1) := o_close (l_net_o9 (p := (t_open (μ 15) (nI e), μ 1)) (o_open (μ 15) (nI e)))
    have hT9 : k_c8 (l_net (t_open (μ 15) (nI e), μ 1)).2 ∧ k_G (l_net (t_open (μ 15) (nI e), μ 1)).2 := ⟨l_net_c8 (p := (t_open (μ 15) (nI e), μ 1)) (hC 1 (by decide)).1, l_net_G (p := (t_open (μ 15) (nI e), μ 1)) (hC 1 (by decide)).2⟩
    by_cases he : (l_net (t_open (μ 15) (nI e), μ 1)).1 12 0 1 = 0
    · refine ⟨0, ch_st (up (up (up μ 1 (l_net (t_open (μ 15) (nI e), μ 1)).2) 0 (k_cp (μ 0) (l_net (t_open (μ 15) (nI e), μ 1)).2)) 15 (nw (t_close (l_net (t_open (μ 15) (nI e), μ 1)).1) 14 0 0 0)) 17 34 0 0 ((l_net (t_open (μ 15) (nI e), μ 1)).2 0 0 0), 31, 1, 2, by decide, by decide, by decide, c_L_load hs h34 (ch_C_imp (c_X11_load hs hL heL hL7 he) (k_Ok_L (by decide))), fun S' hs' => ch_C_imp (c_X12_load hs' (by rw [st17 _ _ (by decide), up_n (by decide), up_n (by decide), up_n (by decide)]; exact hJ) (hC 1 (by decide)).1 hL heL hL7 he) (k_RfA (INV_ldS hI9 hQ9 hT9))⟩
    · refine ⟨0, ch_st (up (up μ 1 (l_net (t_open (μ 15) (nI e), μ 1)).2) 15 (t_close (l_net (t_open (μ 15) (nI e), μ 1)).1)) 17 34 0 0 (-10 - (l_net (t_open (μ 15) (nI e), μ 1)).1 12 0 1), 31, 1, 2, by decide, by decide, by decide, c_L_load hs h34 (ch_C_imp (c_X11_loadE hs hL heL hL7 he) (k_Ok_L (by decide))), fun S' hs' => ch_C_imp (c_X12_loadE hs' (by rw [st17 _ _ (by decide), up_n (by decide), up_n (by decide)]; exact hJ) (hC 1 (by decide)).1 hL heL hL7 he) (k_RfA (INV_ldE hI9 hQ9 hT9))⟩
  · exact ⟨1, μ, 9, 1, 6, by decide, by decide, by decide, ch_CW_imp (c_L_load_ia hs (c_X11_load_t1 hl hs q0)) (k_Ok_F hs), fun S' hs' => ch_C_imp (c_X12_loadR hs' hJ hL (fun z => q0 (by rw [hL]; exact z))) (k_RfT hI9 (by decide) trivial)⟩
set_option maxHeartbeats 400000 in
theorem k_c_query {l : Launch} {E : ch_E} {S : ch_S} {μ : ch_M} (hl : l.stackTraces = false) (hs : ch_Std E S) (h34 : S.2.1 17 34 0) (hI : k_INV μ) {x1 : Int32} : k_Case E l S μ yL_query cL_query 4 [(0, 9, 12, 13)] yX12_query cX12_query 5 (some FieldType.int) 28 (fun _ => True) [.int x1] := by
  obtain ⟨u, p, hI9⟩ := hI
  have hI8 := hI9
  obtain ⟨hp, hu, ha, hb, hJ, hC⟩ := hI8
  have hN := r_J_n hJ
  have hw : k_wf (μ 0) := hN.2.2.2.2.2
  have hm12 := hw.1
  have hc8 := hw.2.1
  have hN9 : ∀ r, r_N (μ 0) ((ch_st μ 17 34 0 0 r) 16 23 0) := fun r => by rw [st17 _ _ (by decide)]; exact hN
  have hJ9 : ∀ r, r_J (μ 0) (μ 2) (μ 15) (μ 15 11 0 7) u (k_ring μ p u) ((ch_st μ 17 34 0 0 r) 16) := fun r => by rw [st17 _ _ (by decide)]; exact hJ
  obtain ⟨L, hL7, hL, -⟩ := hJ.2.2.2
  by_cases q0 : k_rg 0 (k_min (μ 15 12 0 0) 200) x1
  · have q1 := q0
    rw [hL] at q1
    have q2 := q1.2
    rw [k_min_n (by omega)] at q1
    obtain ⟨e, rfl, heL⟩ := k_rg_n q1
    refine ⟨0, ch_st (up μ 15 (t_close (e_qry (μ 0) (t_open (μ 15) (nI e))).2)) 17 34 0 0 (if (e_qry (μ 0) (t_open (μ 15) (nI e))).2 12 0 1 = 0 then (e_qry (μ 0) (t_open (μ 15) (nI e))).1 else -1000000000 - (e_qry (μ 0) (t_open (μ 15) (nI e))).2 12 0 1), 31, 1, 2, by decide, by decide, by decide, c_L_query hs h34 (ch_C_imp (c_X11_query hs hL (by omega) q2 hm12) (k_Ok_L (by decide))), fun S' hs' => ch_C_imp (c_X12_query hs' (by rw [st17 _ _ (by decide), up_n (by decide)]; exact hJ) hL hL7 ⟨by omega, by omega⟩) (k_RfA (fun P hJ2 => INV_q hI9 (fun kd h1 _ => o_close (e_qry_o9 (o_open _ _)) kd h1) hJ2 (by rw [k_m16 _ _ _ (by decide) (by decide), up_s]) (fun k hk => by rw [k_m16 _ _ _ (by omega) (by omega), up_n (by omega)]) (up_s _ _ _)))⟩
  · exact ⟨1, μ, 9, 1, 6, by decide, by decide, by decide, ch_CW_imp (c_L_query_ia hs (c_X11_query_t1 hl hs q0)) (k_Ok_F hs), fun S' hs' => ch_C_imp (c_X12_queryR hs' hJ hL hL7 (fun z => q0 (by rw [hL]; exact z))) (k_RfT hI9 (by decide) trivial)⟩
def k_Rd (v : Option Value) (S : ch_S) : Option Value → ch_S → ch_M → Prop := fun v' S'' μ'' => v' = v ∧ S'' = S ∧ k_INV μ''
def k_Dir (E : ch_E) (l : Launch) (S : ch_S) (μ : ch_M) (yX : MethodName) (cX : ByteArray) (maxX : Nat) (retX : Option FieldType) (dX : Nat) (yM : MethodName) (cM : ByteArray) (maxM : Nat) (retM : Option FieldType) (dM : Nat) (xs : List Value) : Prop :=
  ∃ (r : Int32) (M : ch_M), ch_C E l yX cX maxX retX dX 0 0 S μ (.ref (S.1 15 11 0) :: xs) (ch_F (some (.int r)) S M) ∧ ch_C E l yM cM maxM retM dM 0 0 S M (.ref (S.1 16 22 0) :: xs) (k_Rd (some (.int r)) S)
theorem k_RdF {μ : ch_M} {u p : Nat} (hI : k_Iv μ u p) {t : Int32} {v : Option Value} {S : ch_S} : ∀ v' S' μ', ch_F v S (r_th μ t) v' S' μ' → k_Rd v S v' S' μ' := by
  rintro v' S' μ' ⟨rfl, rfl, rfl⟩
  exact ⟨rfl, rfl, u, p, k_Iv_th hI t⟩
theorem k_RdA {M0 : ch_M} {n sn tx : ch_N} {F t : Int32} {u : Nat} {hst : Nat → ch_N} {v : Option Value} {S : ch_S} (hI : ∀ P, r_J n sn tx F u hst P → k_INV (up M0 16 P)) : ∀ v' S' μ', r_A v t n sn tx F u hst S M0 v' S' μ' → k_Rd v S v' S' μ' := by
  rintro v' S' μ' ⟨rfl, rfl, P, rfl, h6, hJ⟩
  exact ⟨rfl, rfl, hI P hJ⟩
theorem t_app_b {q : ch_N} {w : Int32} {f : Nat} (hf : q 12 0 0 = nI f) (h7 : f + 4 ≤ 700) : ∀ N, N ≤ 4 → (∀ i, i < f → t_app q w N 13 0 i = q 13 0 i) ∧ ∀ k, k < N → t_app q w N 13 0 (f + k) = k_us w (24 - nI (8 * k)) &&& 255
  | 0, _ => ⟨fun _ _ => rfl, fun k hk => absurd hk (Nat.not_lt_zero k)⟩
  | N + 1, hN => by
    obtain ⟨i1, i2⟩ := t_app_b (q := q) (w := w) hf h7 N (by omega)
    have e0 : Int32.toNatClampNeg (t_app q w N 12 0 0) = f + N := by rw [t_app_f, hf, nI_add, nI_clamp (by omega)]
    refine ⟨fun i hi => ?_, fun k hk => ?_⟩
    · rw [t_app_s, nw_k (by decide), nw_at, if_neg (by rw [e0]; omega)]; exact i1 i hi
    · rw [t_app_s, nw_k (by decide), nw_at]
      by_cases e : k = N
      · subst e; rw [if_pos ⟨rfl, rfl, by rw [e0]⟩]
      · rw [if_neg (by rw [e0]; omega)]; exact i2 k (by omega)
theorem t_app_2 (q : ch_N) (w : Int32) : ∀ N, t_app q w N 12 0 2 = q 12 0 2
  | 0 => rfl
  | N + 1 => by rw [t_app_s, nw_at, if_neg (by decide), nw_k (by decide)]; exact t_app_2 q w N
set_option maxHeartbeats 400000 in
theorem k_d_cellCount {l : Launch} {E : ch_E} {S : ch_S} {μ : ch_M} (hs : ch_Std E S) (hI : k_INV μ) : k_Dir E l S μ yX11_cellCount cX11_cellCount 1 (some FieldType.int) 1 yX12_cellCount cX12_cellCount 1 (some FieldType.int) 1 [] := by
  obtain ⟨u, p, hI9⟩ := hI
  have hI8 := hI9
  obtain ⟨hp, hu, ha, hb, hJ, hC⟩ := hI8
  have hN := r_J_n hJ
  have hw : k_wf (μ 0) := hN.2.2.2.2.2
  have hm12 := hw.1
  have hc8 := hw.2.1
  exact ⟨μ 0 0 0 0, μ, c_X11_cellCount hs, ch_C_imp (c_X12_cellCount hs hN) (k_RdF hI9)⟩
set_option maxHeartbeats 400000 in
theorem k_d_relationCount {l : Launch} {E : ch_E} {S : ch_S} {μ : ch_M} (hs : ch_Std E S) (hI : k_INV μ) : k_Dir E l S μ yX11_relationCount cX11_relationCount 1 (some FieldType.int) 1 yX12_relationCount cX12_relationCount 1 (some FieldType.int) 1 [] := by
  obtain ⟨u, p, hI9⟩ := hI
  have hI8 := hI9
  obtain ⟨hp, hu, ha, hb, hJ, hC⟩ := hI8
  have hN := r_J_n hJ
  have hw : k_wf (μ 0) := hN.2.2.2.2.2
  have hm12 := hw.1
  have hc8 := hw.2.1
  exact ⟨μ 0 0 0 1, μ, c_X11_relationCount hs, ch_C_imp (c_X12_relationCount hs hN) (k_RdF hI9)⟩
set_option maxHeartbeats 400000 in
theorem k_d_mobileCount {l : Launch} {E : ch_E} {S : ch_S} {μ : ch_M} (hs : ch_Std E S) (hI : k_INV μ) : k_Dir E l S μ yX11_mobileCount cX11_mobileCount 1 (some FieldType.int) 1 yX12_mobileCount cX12_mobileCount 1 (some FieldType.int) 1 [] := by
  obtain ⟨u, p, hI9⟩ := hI
  have hI8 := hI9
  obtain ⟨hp, hu, ha, hb, hJ, hC⟩ := hI8
  have hN := r_J_n hJ
  have hw : k_wf (μ 0) := hN.2.2.2.2.2
  have hm12 := hw.1
  have hc8 := hw.2.1
  exact ⟨μ 0 0 0 2, μ, c_X11_mobileCount hs, ch_C_imp (c_X12_mobileCount hs hN) (k_RdF hI9)⟩
set_option maxHeartbeats 400000 in
theorem k_d_clock {l : Launch} {E : ch_E} {S : ch_S} {μ : ch_M} (hs : ch_Std E S) (hI : k_INV μ) : k_Dir E l S μ yX11_clock cX11_clock 1 (some FieldType.int) 1 yX12_clock cX12_clock 1 (some FieldType.int) 1 [] := by
  obtain ⟨u, p, hI9⟩ := hI
  have hI8 := hI9
  obtain ⟨hp, hu, ha, hb, hJ, hC⟩ := hI8
  have hN := r_J_n hJ
  have hw : k_wf (μ 0) := hN.2.2.2.2.2
  have hm12 := hw.1
  have hc8 := hw.2.1
  exact ⟨μ 0 0 0 3, μ, c_X11_clock hs, ch_C_imp (c_X12_clock hs hN) (k_RdF hI9)⟩
set_option maxHeartbeats 400000 in
theorem k_d_errorPosition {l : Launch} {E : ch_E} {S : ch_S} {μ : ch_M} (hs : ch_Std E S) (hI : k_INV μ) : k_Dir E l S μ yX11_errorPosition cX11_errorPosition 1 (some FieldType.int) 1 yX12_errorPosition cX12_errorPosition 1 (some FieldType.int) 1 [] := by
  obtain ⟨u, p, hI9⟩ := hI
  have hI8 := hI9
  obtain ⟨hp, hu, ha, hb, hJ, hC⟩ := hI8
  have hN := r_J_n hJ
  have hw : k_wf (μ 0) := hN.2.2.2.2.2
  have hm12 := hw.1
  have hc8 := hw.2.1
  exact ⟨μ 15 12 0 2, μ, c_X11_errorPosition hs, ch_C_imp (c_X12_errorPosition hs hJ) (k_RdF hI9)⟩
set_option maxHeartbeats 400000 in
theorem k_d_total {l : Launch} {E : ch_E} {S : ch_S} {μ : ch_M} (hs : ch_Std E S) (hI : k_INV μ) {x1 : Int32} : k_Dir E l S μ yX11_total cX11_total 2 (some FieldType.int) 2 yX12_total cX12_total 2 (some FieldType.int) 2 [.int x1] := by
  obtain ⟨u, p, hI9⟩ := hI
  have hI8 := hI9
  obtain ⟨hp, hu, ha, hb, hJ, hC⟩ := hI8
  have hN := r_J_n hJ
  have hw : k_wf (μ 0) := hN.2.2.2.2.2
  have hm12 := hw.1
  have hc8 := hw.2.1
  exact ⟨k_tot (μ 0) x1, μ, c_X11_total hs, ch_C_imp (c_X12_total hs hN) (k_RdF hI9)⟩
set_option maxHeartbeats 400000 in
theorem k_d_undoCount {l : Launch} {E : ch_E} {S : ch_S} {μ : ch_M} (hs : ch_Std E S) (hI : k_INV μ) : k_Dir E l S μ yX11_undoCount cX11_undoCount 1 (some FieldType.int) 1 yX12_undoCount cX12_undoCount 1 (some FieldType.int) 1 [] := by
  obtain ⟨u, p, hI9⟩ := hI
  have hI8 := hI9
  obtain ⟨hp, hu, ha, hb, hJ, hC⟩ := hI8
  have hN := r_J_n hJ
  have hw : k_wf (μ 0) := hN.2.2.2.2.2
  have hm12 := hw.1
  have hc8 := hw.2.1
  exact ⟨nI u, μ, by have h9 := c_X11_undoCount (l := l) (μ := μ) hs; rw [ha] at h9; exact h9, ch_C_imp (c_X12_undoCount hs hJ) (k_RdF hI9)⟩
set_option maxHeartbeats 400000 in
theorem k_d_feed {l : Launch} {E : ch_E} {S : ch_S} {μ : ch_M} (hs : ch_Std E S) (hI : k_INV μ) {x1 x2 x3 x4 x5 : Int32} : k_Dir E l S μ yX11_feed cX11_feed 6 (some FieldType.int) 2 yX12_feed cX12_feed 8 (some FieldType.int) 1 [.int x1, .int x2, .int x3, .int x4, .int x5] := by
  obtain ⟨u, p, hI9⟩ := hI
  have hI8 := hI9
  obtain ⟨hp, hu, ha, hb, hJ, hC⟩ := hI8
  have hN := r_J_n hJ
  have hw : k_wf (μ 0) := hN.2.2.2.2.2
  have hm12 := hw.1
  have hc8 := hw.2.1
  obtain ⟨L, hL7, hL, -⟩ := hJ.2.2.2
  by_cases hf : L + 20 ≤ 700
  · have f1 : (t_app (μ 15) x1 4) 12 0 0 = nI (L + 4) := by rw [t_app_f, hL, nI_add]
    have f2 : (t_app (t_app (μ 15) x1 4) x2 4) 12 0 0 = nI (L + 8) := by rw [t_app_f, f1]; exact nI_add ..
    have f3 : (t_app (t_app (t_app (μ 15) x1 4) x2 4) x3 4) 12 0 0 = nI (L + 12) := by rw [t_app_f, f2]; exact nI_add ..
    have f4 : (t_app (t_app (t_app (t_app (μ 15) x1 4) x2 4) x3 4) x4 4) 12 0 0 = nI (L + 16) := by rw [t_app_f, f3]; exact nI_add ..
    have f5 : k_fd (μ 15) x1 x2 x3 x4 x5 12 0 0 = nI (L + 20) := by unfold k_fd; rw [t_app_f, f4]; exact nI_add ..
    have b1 := t_app_b (w := x1) hL (by omega) 4 (Nat.le_refl _)
    have b2 := t_app_b (w := x2) f1 (by omega) 4 (Nat.le_refl _)
    have b3 := t_app_b (w := x3) f2 (by omega) 4 (Nat.le_refl _)
    have b4 := t_app_b (w := x4) f3 (by omega) 4 (Nat.le_refl _)
    have b5 := t_app_b (w := x5) f4 (by omega) 4 (Nat.le_refl _)
    refine ⟨nI (L + 20), up μ 15 (k_fd (μ 15) x1 x2 x3 x4 x5), c_X11_feed hs hL hf, ch_C_imp (c_X12_feed hs (by rw [up_n (by decide)]; exact hJ) hL hL7 hf (tx' := k_fd (μ 15) x1 x2 x3 x4 x5) f5 (by unfold k_fd; rw [t_app_2, t_app_2, t_app_2, t_app_2, t_app_2]) (fun i hi => ?_) (fun k hk => ?_)) (k_RdA (fun P hJ2 => INV_q hI9 (fun kd h1 h2 => by unfold k_fd; rw [t_app_k _ _ h1 h2, t_app_k _ _ h1 h2, t_app_k _ _ h1 h2, t_app_k _ _ h1 h2, t_app_k _ _ h1 h2]) hJ2 (by rw [up_n (by decide), up_s]) (fun k hk => by rw [up_n (by omega), up_n (by omega)]) (up_s _ _ _)))⟩
    · unfold k_fd
      rw [b5.1 i (by omega), b4.1 i (by omega), b3.1 i (by omega), b2.1 i (by omega), b1.1 i hi]
    · unfold k_fd r_by r_wd5
      rcases (show k < 4 ∨ (4 ≤ k ∧ k < 8) ∨ (8 ≤ k ∧ k < 12) ∨ (12 ≤ k ∧ k < 16) ∨ (16 ≤ k ∧ k < 20) by omega) with h | h | h | h | h
      · rw [b5.1 _ (by omega), b4.1 _ (by omega), b3.1 _ (by omega), b2.1 _ (by omega), b1.2 k h, if_pos h, Nat.mod_eq_of_lt h]
      · have e := b2.2 (k - 4) (by omega)
        rw [show L + 4 + (k - 4) = L + k by omega] at e
        rw [b5.1 _ (by omega), b4.1 _ (by omega), b3.1 _ (by omega), e, if_neg (by omega), if_pos h.2, show k % 4 = k - 4 by omega]
      · have e := b3.2 (k - 8) (by omega)
        rw [show L + 8 + (k - 8) = L + k by omega] at e
        rw [b5.1 _ (by omega), b4.1 _ (by omega), e, if_neg (by omega), if_neg (by omega), if_pos h.2, show k % 4 = k - 8 by omega]
      · have e := b4.2 (k - 12) (by omega)
        rw [show L + 12 + (k - 12) = L + k by omega] at e
        rw [b5.1 _ (by omega), e, if_neg (by omega), if_neg (by omega), if_neg (by omega), if_pos h.2, show k % 4 = k - 12 by omega]
      · have e := b5.2 (k - 16) (by omega)
        rw [show L + 16 + (k - 16) = L + k by omega] at e
        rw [e, if_neg (by omega), if_neg (by omega), if_neg (by omega), if_neg (by omega), show k % 4 = k - 16 by omega]
  · exact ⟨-1, μ, c_X11_feedF hs hL hL7 hf, ch_C_imp (c_X12_feedF hs hJ hL hL7 hf) (k_RdF hI9)⟩
set_option maxHeartbeats 400000 in
theorem k_d_undo {l : Launch} {E : ch_E} {S : ch_S} {μ : ch_M} (hs : ch_Std E S) (hI : k_INV μ) : k_Dir E l S μ yX11_undo cX11_undo 1 (some FieldType.int) 5 yX12_undo cX12_undo 1 (some FieldType.int) 2 [] := by
  obtain ⟨u, p, hI9⟩ := hI
  have hI8 := hI9
  obtain ⟨hp, hu, ha, hb, hJ, hC⟩ := hI8
  have hN := r_J_n hJ
  have hw : k_wf (μ 0) := hN.2.2.2.2.2
  have hm12 := hw.1
  have hc8 := hw.2.1
  rcases Nat.eq_zero_or_pos u with e0 | e0
  · exact ⟨-1, μ, c_X11_undoN hs (by rw [ha, e0]; rfl), ch_C_imp (c_X12_undoN hs hJ e0) (k_RdF hI9)⟩
  · obtain ⟨v, rfl⟩ : ∃ v, u = v + 1 := ⟨u - 1, by omega⟩
    refine ⟨nI v, _, c_X11_undo hs (by omega) ha hp hb, ch_C_imp (c_X12_undo hs (by rw [up_n (by decide), up_n (by decide)]; exact hJ) (v := v) rfl) (k_RdA (fun P hJ2 => ?_))⟩
    have hlx : k_lx p < 12 := by unfold k_lx; split <;> omega
    have hl : k_lx p = (p + 11) % 12 := by unfold k_lx; split <;> omega
    obtain ⟨M, hM⟩ : ∃ z, z = up (up (up μ 0 (k_cp (μ 0) (μ (3 + k_lx p)))) 15 (k_tkb (μ 15) p)) 16 P := ⟨_, rfl⟩
    rw [← hM]
    have e15 : M 15 = k_tkb (μ 15) p := by rw [hM, up_n (by decide), up_s]
    have em0 : M 0 = k_cp (μ 0) (μ (3 + k_lx p)) := by rw [hM, up_n (by decide), up_n (by decide), up_s]
    have ek : ∀ k, 1 ≤ k → k < 15 → M k = μ k := fun k h1 h2 => by rw [hM, up_n (by omega), up_n (by omega), up_n (by omega)]
    have er : k_ring μ p (v + 1) v = μ (3 + k_lx p) := by unfold k_ring; rw [show (p + 12 - (v + 1) + v) % 12 = k_lx p by rw [hl]; omega]
    have hc3 := hC (3 + k_lx p) (by omega)
    have c0 := k_cp_c8 (hC 0 (by decide)).1 hc3.1
    have e14 : ∀ kd, kd ≠ 14 → M 15 kd = μ 15 kd := fun kd h => by rw [e15]; unfold k_tkb; rw [nw_k h, nw_k h]
    refine ⟨v, k_lx p, k_Iv_of hlx (by omega) ?_ ?_ (hJ := by rw [hM, up_s]; exact hJ2) (by rw [e14 11 (by decide)]) (fun w z => ?_) (fun _ w z => ?_) (by rw [e14 12 (by decide)]) (by rw [e14 12 (by decide)]) (by rw [e14 13 (by decide)]) (fun i hi w z => ?_) (fun k hk => ?_)⟩
    · rw [e15]; unfold k_tkb; rw [nw_at, if_pos ⟨rfl, rfl, rfl⟩, ha, nI_pred]
    · rw [e15]; unfold k_tkb; rw [nw_at, if_neg (by decide), nw_at, if_pos ⟨rfl, rfl, rfl⟩]
    · rw [er] at z; rw [em0]; exact r_N_ag (k_cp_ag _ _) c0 z
    · rw [ek 2 (by decide) (by decide)]; exact z
    · unfold k_ring at z ⊢
      rw [show 3 + (k_lx p + 12 - v + i) % 12 = 3 + (p + 12 - (v + 1) + i) % 12 by rw [hl]; omega, ek _ (by omega) (by omega)]; exact z
    · rcases Nat.eq_zero_or_pos k with rfl | h1
      · rw [em0]; exact ⟨c0, k_G_ag (k_cp_ag _ _) hc3.2⟩
      · rw [ek k h1 hk]; exact hC k hk
set_option maxHeartbeats 400000 in
theorem k_d_restoreSnapshot {l : Launch} {E : ch_E} {S : ch_S} {μ : ch_M} (hs : ch_Std E S) (hI : k_INV μ) : k_Dir E l S μ yX11_restoreSnapshot cX11_restoreSnapshot 1 (some FieldType.boolean) 4 yX12_restoreSnapshot cX12_restoreSnapshot 1 (some FieldType.boolean) 2 [] := by
  obtain ⟨u, p, hI9⟩ := hI
  have hI8 := hI9
  obtain ⟨hp, hu, ha, hb, hJ, hC⟩ := hI8
  have hN := r_J_n hJ
  have hw : k_wf (μ 0) := hN.2.2.2.2.2
  have hm12 := hw.1
  have hc8 := hw.2.1
  rcases hJ.2.1.2.1 with hF | hF
  · exact ⟨0, μ, c_X11_restoreSnapshotN hs hF, ch_C_imp (c_X12_restoreSnapshotN hs hJ hF) (k_RdF hI9)⟩
  · refine ⟨1, _, c_X11_restoreSnapshot hs (by rw [hF]; decide), ch_C_imp (c_X12_restoreSnapshot hs (by rw [up_n (by decide), up_n (by decide)]; exact hJ) hF) (k_RdA (fun P hJ2 => ?_))⟩
    obtain ⟨M, hM⟩ : ∃ z, z = up (up (up μ 0 (k_cp (μ 0) (μ 2))) 15 (nw (μ 15) 14 0 0 0)) 16 P := ⟨_, rfl⟩
    rw [← hM]
    have e15 : M 15 = nw (μ 15) 14 0 0 0 := by rw [hM, up_n (by decide), up_s]
    have em0 : M 0 = k_cp (μ 0) (μ 2) := by rw [hM, up_n (by decide), up_n (by decide), up_s]
    have ek : ∀ k, 1 ≤ k → k < 15 → M k = μ k := fun k h1 h2 => by rw [hM, up_n (by omega), up_n (by omega), up_n (by omega)]
    have hc2 := hC 2 (by decide)
    have c0 := k_cp_c8 (hC 0 (by decide)).1 hc2.1
    refine ⟨0, p, k_Iv_of hp (Nat.zero_le _) ?_ ?_ (hJ := by rw [hM, up_s]; exact hJ2) (by rw [e15, nw_k (by decide)]) (fun w z => ?_) (fun _ w z => ?_) (by rw [e15, nw_k (by decide)]) (by rw [e15, nw_k (by decide)]) (by rw [e15, nw_k (by decide)]) (fun i hi w z => absurd hi (Nat.not_lt_zero i)) (fun k hk => ?_)⟩
    · rw [e15, nw_at, if_pos ⟨rfl, rfl, rfl⟩]; rfl
    · rw [e15, nw_at, if_neg (by decide)]; exact hb
    · rw [em0]; exact r_N_ag (k_cp_ag _ _) c0 z
    · rw [ek 2 (by decide) (by decide)]; exact z
    · rcases Nat.eq_zero_or_pos k with rfl | h1
      · rw [em0]; exact ⟨c0, k_G_ag (k_cp_ag _ _) hc2.2⟩
      · rw [ek k h1 hk]; exact hC k hk
set_option maxHeartbeats 400000 in
theorem k_d_saveSnapshot {l : Launch} {E : ch_E} {S : ch_S} {μ : ch_M} (hs : ch_Std E S) (hI : k_INV μ) : ∃ M, ch_C E l yX11_saveSnapshot cX11_saveSnapshot 1 none 4 0 0 S μ [.ref (S.1 15 11 0)] (ch_F none S M) ∧ ch_C E l yX12_saveSnapshot cX12_saveSnapshot 1 none 2 0 0 S M [.ref (S.1 16 22 0)] (k_Rd none S) := by
  obtain ⟨u, p, hI9⟩ := hI
  have hI8 := hI9
  obtain ⟨hp, hu, ha, hb, hJ, hC⟩ := hI8
  refine ⟨_, c_X11_saveSnapshot hs, ch_C_imp (c_X12_saveSnapshot hs (by rw [up_n (by decide), up_n (by decide)]; exact hJ)) (k_RdA (fun P hJ2 => ?_))⟩
  obtain ⟨M, hM⟩ : ∃ z, z = up (up (up μ 2 (k_cp (μ 2) (μ 0))) 15 (nw (μ 15) 11 0 7 1)) 16 P := ⟨_, rfl⟩
  rw [← hM]
  have e15 : M 15 = nw (μ 15) 11 0 7 1 := by rw [hM, up_n (by decide), up_s]
  have em2 : M 2 = k_cp (μ 2) (μ 0) := by rw [hM, up_n (by decide), up_n (by decide), up_s]
  have ek : ∀ k, k ≠ 2 → k < 15 → M k = μ k := fun k h1 h2 => by rw [hM, up_n (by omega), up_n (by omega), up_n h1]
  have hc0 := hC 0 (by decide)
  have c2 := k_cp_c8 (hC 2 (by decide)).1 hc0.1
  refine ⟨u, p, k_Iv_of hp hu ?_ ?_ (hJ := by rw [hM, up_s]; exact hJ2) (by rw [e15, nw_at, if_pos ⟨rfl, rfl, rfl⟩]) (fun w z => ?_) (fun _ w z => ?_) (by rw [e15, nw_k (by decide)]) (by rw [e15, nw_k (by decide)]) (by rw [e15, nw_k (by decide)]) (fun i hi w z => ?_) (fun k hk => ?_)⟩
  · rw [e15, nw_k (by decide)]; exact ha
  · rw [e15, nw_k (by decide)]; exact hb
  · rw [ek 0 (by decide) (by decide)]; exact z
  · rw [em2]; exact r_N_ag (k_cp_ag _ _) c2 z
  · unfold k_ring at z ⊢
    rw [ek _ (by omega) (by omega)]; exact z
  · by_cases e : k = 2
    · subst e; rw [em2]; exact ⟨c2, k_G_ag (k_cp_ag _ _) hc0.2⟩
    · rw [ek k e hk]; exact hC k hk
