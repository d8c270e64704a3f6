/-! THE REFERENCE'S WRITERS -/
def r_wd (w : Nat → Int32) (m : Nat) : Nat → Int32 := up w (210 + 91 * m + 8) (-1)
def r_end (w : Nat → Int32) (m : Nat) : Nat → Int32 := r_wd (up (up (up w (210 + 91 * m + 4) 0) (210 + 91 * m + 5) (-1)) (210 + 91 * m + 6) 0) m
def r_rq (w : Nat → Int32) (m : Nat) (c k t : Int32) : Nat → Int32 := up (up (up w (210 + 91 * m + 8) c) (210 + 91 * m + 9) k) (210 + 91 * m + 10) t
def r_bgL (w : Nat → Int32) (m : Nat) : Nat → Nat → Int32 := fun j => kf (fun c w => up (up w (210 + 91 * m + (19 + c)) 0) (210 + 91 * m + (11 + c)) (-1)) j w
def r_beg (w : Nat → Int32) (m : Nat) (c : Int32) : Nat → Int32 := r_bgL (r_wd (up (up (up w (210 + 91 * m + 4) 1) (210 + 91 * m + 5) c) (210 + 91 * m + 7) 0) m) m 8
theorem r_bgL_at (w : Nat → Int32) (m : Nat) : ∀ j i, j ≤ 8 → r_bgL w m j i = if 210 + 91 * m + 19 ≤ i ∧ i < 210 + 91 * m + 19 + j then 0 else if 210 + 91 * m + 11 ≤ i ∧ i < 210 + 91 * m + 11 + j then -1 else w i
  | 0, i, _ => by rw [if_neg (by omega), if_neg (by omega)]; rfl
  | j + 1, i, hj => by
    have e : r_bgL w m (j + 1) = up (up (r_bgL w m j) (210 + 91 * m + (19 + j)) 0) (210 + 91 * m + (11 + j)) (-1) := rfl
    rw [e]
    by_cases h1 : i = 210 + 91 * m + (11 + j)
    · rw [h1, up_s, if_neg (by omega), if_pos (by omega)]
    · rw [up_n h1]
      by_cases h2 : i = 210 + 91 * m + (19 + j)
      · rw [h2, up_s, if_pos (by omega)]
      · rw [up_n h2, r_bgL_at w m j i (by omega)]
        by_cases h3 : 210 + 91 * m + 19 ≤ i ∧ i < 210 + 91 * m + 19 + j
        · rw [if_pos h3, if_pos (by omega)]
        · rw [if_neg h3, if_neg (show ¬ (210 + 91 * m + 19 ≤ i ∧ i < 210 + 91 * m + 19 + (j + 1)) by omega)]
          by_cases h4 : 210 + 91 * m + 11 ≤ i ∧ i < 210 + 91 * m + 11 + j
          · rw [if_pos h4, if_pos (by omega)]
          · rw [if_neg h4, if_neg (by omega)]
theorem r_N_end {n : ch_N} {w : Nat → Int32} {m : Nat} (h : r_N n w) (hm : m < k_mc n) : r_N (k_idle n m) (r_end w m) := by
  obtain ⟨a1, a2, a3, a4, a5, a6, a7, a8, a9, a10, a11, a12, a13, a14⟩ := h.2.2.2.2.1 m hm
  have e0 : k_cc (k_idle n m) = k_cc n := by unfold k_cc; rw [k_idle_0]
  have e3 : ∀ j, (k_idle n m) 3 m j = if j = 4 then 0 else if j = 5 then -1 else if j = 6 then 0 else if j = 7 then 0 else if j = 8 then -1 else if j = 9 then 0 else n 3 m j := by
    intro j
    unfold k_idle k_clr
    rw [na_k (by decide), na_k (by decide)]
    simp only [nw_at]
    by_cases g9 : j = 9
    · subst g9; simp
    by_cases g8 : j = 8
    · subst g8; simp
    by_cases g7 : j = 7
    · subst g7; simp
    by_cases g6 : j = 6
    · subst g6; simp
    by_cases g5 : j = 5
    · subst g5; simp
    by_cases g4 : j = 4
    · subst g4; simp
    simp [g9, g8, g7, g6, g5, g4]
  have e5 : ∀ c, (k_idle n m) 5 m c = 0 := by intro c; unfold k_idle k_clr; rw [na_k (by decide), na_at, if_pos ⟨rfl, rfl⟩]
  have e6 : ∀ c, (k_idle n m) 6 m c = -1 := by intro c; unfold k_idle k_clr; rw [na_at, if_pos ⟨rfl, rfl⟩]
  have w8 : r_end w m (210 + 91 * m + 8) = -1 := by unfold r_end r_wd; rw [up_s]
  refine r_N_mob h hm (fun kd h3 h4 h5 h6 => ?_) (fun kd i hi => ?_) (fun j hj => ?_) ?_ (k_idle_wf h.2.2.2.2.2 m)
  · unfold k_idle k_clr
    rw [na_k h6, na_k h5, nw_k h3, nw_k h3, nw_k h3, nw_k h3, nw_k h3, nw_k h3]
  · funext j
    unfold k_idle k_clr
    simp [na_at, nw_at, hi]
  · unfold r_end r_wd
    rw [up_n (by omega), up_n (by omega), up_n (by omega), up_n (by omega)]
  · refine ⟨fun f hf => ?_, by rw [w8, e3]; rfl, fun z => ?_, fun z => absurd (by rw [e3]; rfl) z, Or.inl (by rw [e3]; rfl), fun z => ?_, fun _ => ⟨by rw [e3]; rfl, fun c _ => ⟨e5 c, e6 c⟩⟩, fun _ => by rw [e3]; rfl, fun z => ?_, Or.inl (by rw [e3]; rfl), fun z => absurd (by rw [e3]; rfl) z, fun z => ?_, ?_, fun z => ?_⟩
    · unfold r_end r_wd
      rw [e3, up_n (by omega)]
      rcases (show f = 0 ∨ f = 1 ∨ f = 2 ∨ f = 3 ∨ f = 4 ∨ f = 5 ∨ f = 6 by omega) with rfl | rfl | rfl | rfl | rfl | rfl | rfl
      · rw [up_n (by omega), up_n (by omega), up_n (by omega)]; exact a1 0 (by decide)
      · rw [up_n (by omega), up_n (by omega), up_n (by omega)]; exact a1 1 (by decide)
      · rw [up_n (by omega), up_n (by omega), up_n (by omega)]; exact a1 2 (by decide)
      · rw [up_n (by omega), up_n (by omega), up_n (by omega)]; exact a1 3 (by decide)
      · rw [up_n (by omega), up_n (by omega), up_s]; rfl
      · rw [up_n (by omega), up_s]; rfl
      · rw [up_s]; rfl
    · rw [e3, if_pos rfl] at z; exact absurd z (by decide)
    · rw [e3, if_pos rfl] at z; exact absurd z (by decide)
    · rw [e3, if_pos rfl] at z; exact absurd z (by decide)
    · rw [e3, if_pos rfl] at z; exact absurd z (by decide)
    · rw [e3, e3]; exact a13
    · rw [e3, if_pos rfl] at z; exact absurd z (by decide)
theorem r_N_beg {n : ch_N} {w : Nat → Int32} {m s : Nat} (h : r_N n w) (hm : m < k_mc n) (hs : s < k_cc n) (hleft : 0 < n 3 m 6) : r_N (k_beg n m (nI s)) (r_beg w m (nI s)) := by
  obtain ⟨a1, a2, a3, a4, a5, a6, a7, a8, a9, a10, a11, a12, a13, a14⟩ := h.2.2.2.2.1 m hm
  have hs8 := r_c8 h hs
  have e0 : k_cc (k_beg n m (nI s)) = k_cc n := by unfold k_cc; rw [k_beg_0]
  have e3 : ∀ j, (k_beg n m (nI s)) 3 m j = if j = 4 then 1 else if j = 5 then nI s else if j = 7 then 0 else if j = 8 then -1 else n 3 m j := by
    intro j
    unfold k_beg k_clr
    rw [na_k (by decide), na_k (by decide)]
    simp only [nw_at]
    by_cases g8 : j = 8
    · subst g8; simp
    by_cases g7 : j = 7
    · subst g7; simp
    by_cases g5 : j = 5
    · subst g5; simp
    by_cases g4 : j = 4
    · subst g4; simp
    simp [g8, g7, g5, g4]
  have e5 : ∀ c, (k_beg n m (nI s)) 5 m c = 0 := by intro c; unfold k_beg k_clr; rw [na_k (by decide), na_at, if_pos ⟨rfl, rfl⟩]
  have e6 : ∀ c, (k_beg n m (nI s)) 6 m c = -1 := by intro c; unfold k_beg k_clr; rw [na_at, if_pos ⟨rfl, rfl⟩]
  have ew : ∀ i, r_beg w m (nI s) i = if 210 + 91 * m + 19 ≤ i ∧ i < 210 + 91 * m + 19 + 8 then 0 else if 210 + 91 * m + 11 ≤ i ∧ i < 210 + 91 * m + 11 + 8 then -1 else if i = 210 + 91 * m + 8 then -1 else if i = 210 + 91 * m + 7 then 0 else if i = 210 + 91 * m + 5 then nI s else if i = 210 + 91 * m + 4 then 1 else w i := by
    intro i
    unfold r_beg
    rw [r_bgL_at _ _ 8 i (Nat.le_refl _)]
    rfl
  refine r_N_mob h hm (fun kd h3 h4 h5 h6 => ?_) (fun kd i hi => ?_) (fun j hj => ?_) ?_ (k_beg_wf h.2.2.2.2.2 m _)
  · unfold k_beg k_clr
    rw [na_k h6, na_k h5, nw_k h3, nw_k h3, nw_k h3, nw_k h3]
  · funext j
    unfold k_beg k_clr
    simp [na_at, nw_at, hi]
  · rw [ew, if_neg (by omega), if_neg (by omega), if_neg (by omega), if_neg (by omega), if_neg (by omega), if_neg (by omega)]
  · have s1 : k_beg n m (nI s) 3 m 4 = 1 := by rw [e3, if_pos rfl]
    have s8 : k_beg n m (nI s) 3 m 8 = -1 := by rw [e3]; rfl
    refine ⟨fun f hf => ?_, ?_, fun _ => ⟨?_, fun c hc => ⟨?_, ?_, fun k hk => ?_⟩⟩, fun z => absurd s8 z, Or.inr (Or.inl s1), fun _ => ⟨s, by rw [e0]; exact hs, by rw [e3]; rfl⟩, fun z => absurd s1 z, fun z => ?_, fun z => ?_, Or.inl s8, fun _ => by rw [e3]; exact hleft, fun _ c hc z => ?_, ?_, fun _ c k hc hk => ?_⟩
    · rw [ew, if_neg (by omega), if_neg (by omega), if_neg (by omega), if_neg (by omega), e3]
      by_cases g5 : f = 5
      · subst g5; rw [if_pos rfl]; rfl
      by_cases g4 : f = 4
      · subst g4; rw [if_neg (by omega), if_pos rfl]; rfl
      rw [if_neg (by omega), if_neg (by omega), if_neg g4, if_neg g5, if_neg (by omega), if_neg (by omega)]
      exact a1 f hf
    · rw [ew, if_neg (by omega), if_neg (by omega), if_pos rfl, s8]
    · rw [ew, if_neg (by omega), if_neg (by omega), if_neg (by omega), if_pos rfl, e3]; rfl
    · rw [ew, if_neg (by omega), if_pos (by omega), e6]
    · rw [ew, if_pos (by omega), e5]
    · rw [e5] at hk; exact absurd hk (Nat.not_lt_zero _)
    · rw [s1] at z; exact absurd z (by decide)
    · rw [s1] at z; exact absurd z (by decide)
    · rw [s8] at z; exact absurd z.symm (nI_nm1 (by omega))
    · rw [e3, e3]; exact a13
    · rw [e5] at hk; exact absurd hk (Nat.not_lt_zero _)
set_option maxHeartbeats 100000 in
theorem c_X12_count {l : Launch} {E : ch_E} {S : ch_S} {μ : ch_M} (hs : ch_Std E S) {t : Nat} (ht : t < 8) : ch_C E l yX12_count cX12_count 2 none 1 0 0 S μ [.ref (S.1 16 22 0), .int (nI t)] (ch_F none S (r_wr μ (up (μ 16 23 0) (10 + t) (μ 16 23 0 (10 + t) + 1)))) := by
  refine ch_enter rfl rfl ?_
  intro X hl0 h hG hR hnm
  have h : ch_H X E RX12 cX12_count 2 := h
  show ch_W X E 2 S μ 0 0 0 [(0, .ref (S.1 16 22 0)), (1, .int (nI t))] []
  refine ca_aload_nr h dX12_count_0 rfl ?_
  refine gs_X12_9 h hs ⟨rfl, rfl⟩ dX12_count_1 ?_
  refine ca_bipush h dX12_count_4 bk_10 ?_
  refine ca_iload_n h dX12_count_6 rfl ?_
  refine ca_iadd h dX12_count_7 ?_
  refine ca_top (show _ = nI (10 + t) by rw [show (10 : Int32) = nI 10 from rfl, nI_add]) ?_
  refine ca_dup2 h dX12_count_8 rfl rfl ?_
  refine ca_iald h rfl (hs.1 _ _ _ ⟨rfl, rfl⟩) (vp_in_nI (by omega) (by decide)) dX12_count_9 ?_
  refine ca_iconst h dX12_count_10 ik_1 ?_
  refine ca_iadd h dX12_count_11 ?_
  refine ca_iast h rfl (hs.1 _ _ _ ⟨rfl, rfl⟩) (vp_in_nI (by omega) (by decide)) dX12_count_12 ?_
  refine ca_vreturn h hR dX12_count_13 ?_
  exact ⟨rfl, rfl, by rw [ch_st_nw, nI_clamp (by omega)]; rfl⟩
set_option maxHeartbeats 100000 in
theorem c_X12_withdraw {l : Launch} {E : ch_E} {S : ch_S} {μ : ch_M} (hs : ch_Std E S) {m : Nat} (hm : m < 12) : ch_C E l yX12_withdraw cX12_withdraw 2 none 2 0 0 S μ [.ref (S.1 16 22 0), .int (nI m)] (ch_F none S (r_wr μ (r_wd (μ 16 23 0) m))) := by
  refine ch_enter rfl rfl ?_
  intro X hl0 h hG hR hnm
  have h : ch_H X E RX12 cX12_withdraw 2 := h
  show ch_W X E 2 S μ 0 0 0 [(0, .ref (S.1 16 22 0)), (1, .int (nI m))] []
  refine ca_aload_nr h dX12_withdraw_0 rfl ?_
  refine ca_iload_n h dX12_withdraw_1 rfl ?_
  refine ca_bipush h dX12_withdraw_2 bk_8 ?_
  refine ca_iconst h dX12_withdraw_4 ik_m1 ?_
  refine ca_vv h hG ml_X12_147 (c_X12_put hs (f := 8) (by omega) (by decide)) (ci := 12) rfl rfl rfl (hs.1 _ _ _ ⟨rfl, rfl⟩) rfl rfl rfl rfl ⟨Nat.le_refl _, Nat.le_refl _⟩ rfl dX12_withdraw_5 ?_
  refine ca_vreturn h hR dX12_withdraw_8 ?_
  exact ⟨rfl, rfl, rfl⟩
set_option maxHeartbeats 100000 in
theorem c_X12_end {l : Launch} {E : ch_E} {S : ch_S} {μ : ch_M} (hs : ch_Std E S) {m : Nat} (hm : m < 12) : ch_C E l yX12_end cX12_end 2 none 3 0 0 S μ [.ref (S.1 16 22 0), .int (nI m)] (ch_F none S (r_wr μ (r_end (μ 16 23 0) m))) := by
  refine ch_enter rfl rfl ?_
  intro X hl0 h hG hR hnm
  have h : ch_H X E RX12 cX12_end 2 := h
  show ch_W X E 2 S μ 0 0 0 [(0, .ref (S.1 16 22 0)), (1, .int (nI m))] []
  refine ca_mem (μ'' := r_wr μ (μ 16 23 0)) (r_wr_id μ).symm ?_
  refine ca_aload_nr h dX12_end_0 rfl ?_
  refine ca_iload_n h dX12_end_1 rfl ?_
  refine ca_iconst h dX12_end_2 ik_4 ?_
  refine ca_iconst h dX12_end_3 ik_0 ?_
  refine ca_vv h hG ml_X12_147 (c_X12_put hs (f := 4) (by omega) (by decide)) (ci := 12) rfl rfl rfl (hs.1 _ _ _ ⟨rfl, rfl⟩) rfl rfl rfl rfl ⟨Nat.le_refl _, Nat.le_refl _⟩ rfl dX12_end_4 ?_
  refine ca_aload_nr h dX12_end_7 rfl ?_
  refine ca_iload_n h dX12_end_8 rfl ?_
  refine ca_iconst h dX12_end_9 ik_5 ?_
  refine ca_iconst h dX12_end_10 ik_m1 ?_
  refine ca_vv h hG ml_X12_147 (c_X12_put hs (f := 5) (by omega) (by decide)) (ci := 12) rfl rfl rfl (hs.1 _ _ _ ⟨rfl, rfl⟩) rfl rfl rfl rfl ⟨Nat.le_refl _, Nat.le_refl _⟩ rfl dX12_end_11 ?_
  refine ca_aload_nr h dX12_end_14 rfl ?_
  refine ca_iload_n h dX12_end_15 rfl ?_
  refine ca_bipush h dX12_end_16 bk_6 ?_
  refine ca_iconst h dX12_end_18 ik_0 ?_
  refine ca_vv h hG ml_X12_147 (c_X12_put hs (f := 6) (by omega) (by decide)) (ci := 12) rfl rfl rfl (hs.1 _ _ _ ⟨rfl, rfl⟩) rfl rfl rfl rfl ⟨Nat.le_refl _, Nat.le_refl _⟩ rfl dX12_end_19 ?_
  refine ca_aload_nr h dX12_end_22 rfl ?_
  refine ca_iload_n h dX12_end_23 rfl ?_
  refine ca_vv h hG ml_X12_163 (c_X12_withdraw hs hm) (ci := 12) rfl rfl rfl (hs.1 _ _ _ ⟨rfl, rfl⟩) rfl rfl rfl rfl ⟨Nat.le_refl _, Nat.le_refl _⟩ rfl dX12_end_24 ?_
  refine ca_vreturn h hR dX12_end_27 ?_
  exact ⟨rfl, rfl, by simp only [r_wr_put, r_wr_at, r_wr_wr]; rfl⟩
set_option maxHeartbeats 100000 in
theorem c_X12_request {l : Launch} {E : ch_E} {S : ch_S} {μ : ch_M} (hs : ch_Std E S) {m : Nat} (hm : m < 12) {c k : Int32} : ch_C E l yX12_request cX12_request 4 none 2 0 0 S μ [.ref (S.1 16 22 0), .int (nI m), .int c, .int k] (ch_F none S (r_wr μ (r_rq (μ 16 23 0) m c k (μ 16 23 0 3)))) := by
  refine ch_enter rfl rfl ?_
  intro X hl0 h hG hR hnm
  have h : ch_H X E RX12 cX12_request 4 := h
  show ch_W X E 4 S μ 0 0 0 [(0, .ref (S.1 16 22 0)), (1, .int (nI m)), (2, .int c), (3, .int k)] []
  refine ca_mem (μ'' := r_wr μ (μ 16 23 0)) (r_wr_id μ).symm ?_
  refine ca_aload_nr h dX12_request_0 rfl ?_
  refine ca_iload_n h dX12_request_1 rfl ?_
  refine ca_bipush h dX12_request_2 bk_8 ?_
  refine ca_iload_n h dX12_request_4 rfl ?_
  refine ca_vv h hG ml_X12_147 (c_X12_put hs (f := 8) (by omega) (by decide)) (ci := 12) rfl rfl rfl (hs.1 _ _ _ ⟨rfl, rfl⟩) rfl rfl rfl rfl ⟨Nat.le_refl _, Nat.le_refl _⟩ rfl dX12_request_5 ?_
  refine ca_aload_nr h dX12_request_8 rfl ?_
  refine ca_iload_n h dX12_request_9 rfl ?_
  refine ca_bipush h dX12_request_10 bk_9 ?_
  refine ca_iload_n h dX12_request_12 rfl ?_
  refine ca_vv h hG ml_X12_147 (c_X12_put hs (f := 9) (by omega) (by decide)) (ci := 12) rfl rfl rfl (hs.1 _ _ _ ⟨rfl, rfl⟩) rfl rfl rfl rfl ⟨Nat.le_refl _, Nat.le_refl _⟩ rfl dX12_request_13 ?_
  refine ca_aload_nr h dX12_request_16 rfl ?_
  refine ca_iload_n h dX12_request_17 rfl ?_
  refine ca_bipush h dX12_request_18 bk_10 ?_
  refine ca_aload_nr h dX12_request_20 rfl ?_
  refine gs_X12_9 h hs ⟨rfl, rfl⟩ dX12_request_21 ?_
  refine ca_iconst h dX12_request_24 ik_3 ?_
  refine ca_iald h rfl (hs.1 _ _ _ ⟨rfl, rfl⟩) (vp_in_nI (n := 3) (N := 1302) (by decide) (by decide)) dX12_request_25 ?_
  refine ca_top (show _ = μ 16 23 0 3 by simp only [r_wr_put, r_wr_at, r_wr_wr]; rw [up_n (show Int32.toNatClampNeg 3 ≠ _ by rw [show Int32.toNatClampNeg 3 = 3 from rfl]; omega), up_n (show Int32.toNatClampNeg 3 ≠ _ by rw [show Int32.toNatClampNeg 3 = 3 from rfl]; omega)]; rfl) ?_
  refine ca_vv h hG ml_X12_147 (c_X12_put hs (f := 10) (by omega) (by decide)) (ci := 12) rfl rfl rfl (hs.1 _ _ _ ⟨rfl, rfl⟩) rfl rfl rfl rfl ⟨Nat.le_refl _, Nat.le_refl _⟩ rfl dX12_request_26 ?_
  refine ca_vreturn h hR dX12_request_29 ?_
  exact ⟨rfl, rfl, by simp only [r_wr_put, r_wr_at, r_wr_wr]; rfl⟩
set_option maxHeartbeats 100000 in
theorem c_X12_begin {l : Launch} {E : ch_E} {S : ch_S} {μ : ch_M} (hs : ch_Std E S) {m : Nat} (hm : m < 12) {c : Int32} : ch_C E l yX12_begin cX12_begin 4 none 3 0 0 S μ [.ref (S.1 16 22 0), .int (nI m), .int c] (ch_F none S (r_wr μ (r_beg (μ 16 23 0) m c))) := by
  refine ch_enter rfl rfl ?_
  intro X hl0 h hG hR hnm
  have h : ch_H X E RX12 cX12_begin 4 := h
  show ch_W X E 4 S μ 0 0 0 [(0, .ref (S.1 16 22 0)), (1, .int (nI m)), (2, .int c)] []
  refine ca_mem (μ'' := r_wr μ (μ 16 23 0)) (r_wr_id μ).symm ?_
  refine ca_aload_nr h dX12_begin_0 rfl ?_
  refine ca_iload_n h dX12_begin_1 rfl ?_
  refine ca_iconst h dX12_begin_2 ik_4 ?_
  refine ca_iconst h dX12_begin_3 ik_1 ?_
  refine ca_vv h hG ml_X12_147 (c_X12_put hs (f := 4) (by omega) (by decide)) (ci := 12) rfl rfl rfl (hs.1 _ _ _ ⟨rfl, rfl⟩) rfl rfl rfl rfl ⟨Nat.le_refl _, Nat.le_refl _⟩ rfl dX12_begin_4 ?_
  refine ca_aload_nr h dX12_begin_7 rfl ?_
  refine ca_iload_n h dX12_begin_8 rfl ?_
  refine ca_iconst h dX12_begin_9 ik_5 ?_
  refine ca_iload_n h dX12_begin_10 rfl ?_
  refine ca_vv h hG ml_X12_147 (c_X12_put hs (f := 5) (by omega) (by decide)) (ci := 12) rfl rfl rfl (hs.1 _ _ _ ⟨rfl, rfl⟩) rfl rfl rfl rfl ⟨Nat.le_refl _, Nat.le_refl _⟩ rfl dX12_begin_11 ?_
  refine ca_aload_nr h dX12_begin_14 rfl ?_
  refine ca_iload_n h dX12_begin_15 rfl ?_
  refine ca_bipush h dX12_begin_16 bk_7 ?_
  refine ca_iconst h dX12_begin_18 ik_0 ?_
  refine ca_vv h hG ml_X12_147 (c_X12_put hs (f := 7) (by omega) (by decide)) (ci := 12) rfl rfl rfl (hs.1 _ _ _ ⟨rfl, rfl⟩) rfl rfl rfl rfl ⟨Nat.le_refl _, Nat.le_refl _⟩ rfl dX12_begin_19 ?_
  refine ca_aload_nr h dX12_begin_22 rfl ?_
  refine ca_iload_n h dX12_begin_23 rfl ?_
  refine ca_vv h hG ml_X12_163 (c_X12_withdraw hs hm) (ci := 12) rfl rfl rfl (hs.1 _ _ _ ⟨rfl, rfl⟩) rfl rfl rfl rfl ⟨Nat.le_refl _, Nat.le_refl _⟩ rfl dX12_begin_24 ?_
  refine ca_iconst h dX12_begin_27 ik_0 ?_
  refine ca_istore_n h dX12_begin_28 rfl ?_
  have loop_29 : ∀ (jj j : Nat), j + jj = 8 → ∀ (x3 : Int32) (e3 : x3 = nI j) (mm : ch_M) (em : mm = r_wr μ (r_bgL (r_wd (up (up (up (μ 16 23 0) (210 + 91 * m + 4) 1) (210 + 91 * m + 5) c) (210 + 91 * m + 7) 0) m) m j)), ch_W X E 4 S mm 0 0 29 [(0, .ref (S.1 16 22 0)), (1, .int (nI m)), (2, .int c), (3, .int x3)] [] := by
    intro jj
    induction jj with
    | zero =>
      intro j hn x3 e3 mm em
      have hn : j = 8 := by omega
      subst e3 em
      refine ca_iload_n h dX12_begin_29 rfl ?_
      refine ca_bipush h dX12_begin_30 bk_8 ?_
      refine ca_icmp_ge (tgt := 61) h dX12_begin_32 (by decide) (fun c_32 => ?_) (fun c_32 => ?_)
      ·
        refine ca_vreturn h hR dX12_begin_61 ?_
        exact ⟨rfl, rfl, by rw [hn]; rfl⟩
      · exact absurd c_32 (by rw [hn]; decide)
    | succ jj ih_29 =>
      intro j hn x3 e3 mm em
      have hn1 : j < 8 := by omega
      subst e3 em
      refine ca_iload_n h dX12_begin_29 rfl ?_
      refine ca_bipush h dX12_begin_30 bk_8 ?_
      refine ca_icmp_ge (tgt := 61) h dX12_begin_32 (by decide) (fun c_32 => ?_) (fun c_32 => ?_)
      · exact absurd (nI_lt (b := 8) hn1 (by decide)) c_32
      ·
        refine ca_aload_nr h dX12_begin_35 rfl ?_
        refine ca_iload_n h dX12_begin_36 rfl ?_
        refine ca_bipush h dX12_begin_37 bk_19 ?_
        refine ca_iload_n h dX12_begin_39 rfl ?_
        refine ca_iadd h dX12_begin_40 ?_
        refine ca_top (show _ = nI (19 + j) by rw [show (19 : Int32) = nI 19 from rfl, nI_add]) ?_
        refine ca_iconst h dX12_begin_41 ik_0 ?_
        refine ca_vv h hG ml_X12_147 (c_X12_put hs (f := 19 + j) hm (by omega)) (ci := 12) rfl rfl rfl (hs.1 _ _ _ ⟨rfl, rfl⟩) rfl rfl rfl rfl ⟨Nat.le_refl _, Nat.le_refl _⟩ rfl dX12_begin_42 ?_
        refine ca_aload_nr h dX12_begin_45 rfl ?_
        refine ca_iload_n h dX12_begin_46 rfl ?_
        refine ca_bipush h dX12_begin_47 bk_11 ?_
        refine ca_iload_n h dX12_begin_49 rfl ?_
        refine ca_iadd h dX12_begin_50 ?_
        refine ca_top (show _ = nI (11 + j) by rw [show (11 : Int32) = nI 11 from rfl, nI_add]) ?_
        refine ca_iconst h dX12_begin_51 ik_m1 ?_
        refine ca_vv h hG ml_X12_147 (c_X12_put hs (f := 11 + j) hm (by omega)) (ci := 12) rfl rfl rfl (hs.1 _ _ _ ⟨rfl, rfl⟩) rfl rfl rfl rfl ⟨Nat.le_refl _, Nat.le_refl _⟩ rfl dX12_begin_52 ?_
        refine ca_iinc h dX12_begin_55 rfl ik_1 rfl ?_
        refine ca_goto (tgt := 29) h dX12_begin_58 (by decide) ?_
        refine ca_pick [1, 2, 3, 0] rfl ?_
        exact ih_29 (j + 1) (by omega) _ (nI_1 j) _ (by simp only [r_wr_put, r_wr_at, r_wr_wr]; rfl)
  refine ca_pick [1, 2, 3, 0] rfl ?_
  exact loop_29 _ 0 (Nat.zero_add _) _ rfl _ (by simp only [r_wr_put, r_wr_at, r_wr_wr]; rfl)
