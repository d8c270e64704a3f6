/-! a mobile's own methods, and what writes a network -/
theorem ch_sa_sa (μ : ch_M) (k kd i : Nat) (f g : Nat → Int32) : ch_sa (ch_sa μ k kd i f) k kd i g = ch_sa μ k kd i g := by
  simp [ch_sa, up_s, up_up]
theorem ch_sa_id (μ : ch_M) (k kd i : Nat) : ch_sa μ k kd i (μ k kd i) = μ := by
  simp [ch_sa, up_id]
theorem fill_step (μ : ch_M) (k kd i n : Nat) (v : Int32) (hn : n < 2 ^ 31) : ch_st (ch_sa μ k kd i (fun q => if q < n then v else μ k kd i q)) k kd i (Int32.toNatClampNeg (nI n)) v = ch_sa μ k kd i (fun q => if q < n + 1 then v else μ k kd i q) := by
  rw [ch_st_sa, ch_sa_same, ch_sa_sa, cn_nI hn]
  congr 1
  funext q
  unfold up
  by_cases h1 : q = n
  · subst h1; simp
  · rw [if_neg h1]
    show (if q < n then v else _) = _
    by_cases h2 : q < n
    · rw [if_pos h2, if_pos (by omega)]
    · rw [if_neg h2, if_neg (by omega)]
set_option maxHeartbeats 100000 in
theorem c_fill {l : Launch} {E : ch_E} {S : ch_S} {μ : ch_M} {k kd i n : Nat} {v : Int32} (hv : S.2.1 k kd i) (hkd : ch_kd kd = .inr (0, 0, n)) (hn31 : n < 2 ^ 31) : ch_C E l yJ7_fill_53178 cJ7_fill_53178 4 none 1 0 0 S μ [.ref (S.1 k kd i), .int v] (ch_F none S (ch_sa μ k kd i (fun _ => v))) := by
  refine ch_enter rfl rfl ?_
  intro X hl0 h hG hR hnm
  have h : ch_H X E RJ7 cJ7_fill_53178 4 := h
  show ch_W X E 4 S μ 0 0 0 [(0, .ref (S.1 k kd i)), (1, .int v)] []
  refine ca_iconst h dJ7_fill_53178_0 ik_0 ?_
  refine ca_istore_n h dJ7_fill_53178_1 rfl ?_
  refine ca_aload_nr h dJ7_fill_53178_2 rfl ?_
  refine ca_alen h hkd (by decide) hv rfl dJ7_fill_53178_3 ?_
  refine ca_istore_n h dJ7_fill_53178_4 rfl ?_
  have loop_5 : ∀ (jj q : Nat), q + jj = n → ∀ (x2 : Int32) (e2 : x2 = nI q) (mm : ch_M) (em : mm = ch_sa μ k kd i (fun z => if z < q then v else μ k kd i z)), ch_W X E 4 S mm 0 0 5 [(0, .ref (S.1 k kd i)), (1, .int v), (2, .int x2), (3, .int (nI n))] [] := by
    intro jj
    induction jj with
    | zero =>
      intro q hn x2 e2 mm em
      have hn : q = n := by omega
      subst e2 em
      refine ca_iload_n h dJ7_fill_53178_5 rfl ?_
      refine ca_iload_n h dJ7_fill_53178_6 rfl ?_
      refine ca_icmp_ge (tgt := 20) h dJ7_fill_53178_7 (by decide) (fun c_7 => ?_) (fun c_7 => ?_)
      ·
        refine ca_agree (μ' := ch_sa μ k kd i (fun _ => v)) (fun k' kd' i' j hv' hj => ?_) ?_
        · by_cases e : k' = k ∧ kd' = kd ∧ i' = i
          · obtain ⟨rfl, rfl, rfl⟩ := e
            rw [ch_len_a hkd] at hj
            rw [ch_sa_same, ch_sa_same, if_pos (by omega)]
          · rw [ch_sa_ne e, ch_sa_ne e]
        refine ca_vreturn h hR dJ7_fill_53178_20 ?_
        exact ⟨rfl, rfl, rfl⟩
      · exact absurd c_7 (by rw [hn]; exact nI_nlt (Nat.le_refl _) hn31)
    | succ jj ih_5 =>
      intro q hn x2 e2 mm em
      have hn1 : q < n := by omega
      subst e2 em
      refine ca_iload_n h dJ7_fill_53178_5 rfl ?_
      refine ca_iload_n h dJ7_fill_53178_6 rfl ?_
      refine ca_icmp_ge (tgt := 20) h dJ7_fill_53178_7 (by decide) (fun c_7 => ?_) (fun c_7 => ?_)
      · exact absurd (nI_lt hn1 hn31) c_7
      ·
        refine ca_aload_nr h dJ7_fill_53178_10 rfl ?_
        refine ca_iload_n h dJ7_fill_53178_11 rfl ?_
        refine ca_iload_n h dJ7_fill_53178_12 rfl ?_
        refine ca_iast h hkd hv (vp_in_nI hn1 hn31) dJ7_fill_53178_13 ?_
        refine ca_iinc h dJ7_fill_53178_14 rfl ik_1 rfl ?_
        refine ca_goto (tgt := 5) h dJ7_fill_53178_17 (by decide) ?_
        refine ca_pick [1, 2, 0, 3] rfl ?_
        exact ih_5 (q + 1) (by omega) _ (nI_1 q) _ (fill_step μ k kd i q v (by omega))
  refine ca_pick [2, 3, 1, 0] rfl ?_
  exact loop_5 _ 0 (Nat.zero_add _) _ rfl _ (by simp [ch_sa_id])
theorem c_fillN {l : Launch} {E : ch_E} {S : ch_S} {μ : ch_M} {k kd i : Nat} (n : Nat) {v : Int32} (hv : S.2.1 k kd i) (hkd : ch_kd kd = .inr (0, 0, n)) (hn31 : Nat.ble (n + 1) 2147483648 = true) : ch_C E l yJ7_fill_53178 cJ7_fill_53178 4 none 1 0 0 S μ [.ref (S.1 k kd i), .int v] (ch_F none S (ch_sa μ k kd i (fun _ => v))) := c_fill hv hkd (by have := Nat.le_of_ble_eq_true hn31; omega)
def k_clr (n : ch_N) (i : Nat) : ch_N := na (na n 5 i (fun _ => 0)) 6 i (fun _ => -1)
def k_idle (n : ch_N) (i : Nat) : ch_N := k_clr (nw (nw (nw (nw (nw (nw n 3 i 4 0) 3 i 5 (-1)) 3 i 6 0) 3 i 7 0) 3 i 8 (-1)) 3 i 9 0) i
def k_plc (n : ch_N) (i : Nat) (x y vx vy : Int32) : ch_N := k_idle (nw (nw (nw (nw n 3 i 0 x) 3 i 1 y) 3 i 2 vx) 3 i 3 vy) i
def k_beg (n : ch_N) (i : Nat) (c : Int32) : ch_N := k_clr (nw (nw (nw (nw n 3 i 4 1) 3 i 5 c) 3 i 7 0) 3 i 8 (-1)) i
def k_mrq (n : ch_N) (i : Nat) (c t : Int32) : ch_N := nw (nw n 3 i 8 c) 3 i 9 t
def k_wfs (n : ch_N) (i : Nat) (c t : Int32) : ch_N := k_mrq (nw n 3 i 4 2) i c t
def k_rep (n : ch_N) (i : Nat) (x : Int32) : Int32 := if x < 0 then 0 else if x < 8 then n 5 i (Int32.toNatClampNeg x) else 0
def k_crp (n : ch_N) (i : Nat) (x : Int32) : ch_N := if x < 0 then n else if x < 8 then nw n 5 i (Int32.toNatClampNeg x) 0 else n
def k_bar (n : ch_N) (i : Nat) (x t : Int32) : ch_N := if x < 0 then n else if x < 8 then nw n 6 i (Int32.toNatClampNeg x) t else n
def k_isb (n : ch_N) (i : Nat) (x t : Int32) : Bool := if x < 0 then false else if x < 8 then !decide (n 6 i (Int32.toNatClampNeg x) < t) else false
def k_sum (n : ch_N) (i a : Nat) (q : Nat) : Int32 := kf (fun t r => r + n 4 i (a + t)) q 0
def k_avg (n : ch_N) (i : Nat) (x : Int32) : Int32 := if 0 < k_rep n i x then k_sum n i (8 * Int32.toNatClampNeg x) (Int32.toNatClampNeg (k_rep n i x)) / k_rep n i x else -1
def k_drp (n : ch_N) (i a q : Nat) : ch_N := na n 4 i (fun t => if a ≤ t ∧ t < a + (q - 1) then n 4 i (t + 1) else n 4 i t)
def k_add (n : ch_N) (i c : Nat) (v : Int32) (w : Nat) : ch_N :=
  if Int32.toNatClampNeg (n 5 i c) < w then nw (nw n 4 i (8 * c + Int32.toNatClampNeg (n 5 i c)) v) 5 i c (nI (Int32.toNatClampNeg (n 5 i c)) + 1)
  else nw (nw (k_drp n i (8 * c) (Int32.toNatClampNeg (n 5 i c))) 4 i (8 * c + (Int32.toNatClampNeg (n 5 i c) - 1)) v) 5 i c (nI (Int32.toNatClampNeg (n 5 i c) - 1) + 1)
set_option maxHeartbeats 100000 in
theorem c_X2_clearMeasurements {l : Launch} {E : ch_E} {S : ch_S} {μ : ch_M} {k i : Nat} (hs : ch_Std E S) (hk : k < 15) (hi : i < 13) : ch_C E l yX2_clearMeasurements cX2_clearMeasurements 1 none 2 0 0 S μ [.ref (S.1 k 3 i)] (ch_F none S (up μ k (k_clr (μ k) i))) := by
  refine ch_enter rfl rfl ?_
  intro X hl0 h hG hR hnm
  have h : ch_H X E RX2 cX2_clearMeasurements 1 := h
  show ch_W X E 1 S μ 0 0 0 [(0, .ref (S.1 k 3 i))] []
  refine ca_aload_nr h dX2_clearMeasurements_0 rfl ?_
  refine gs_X2_15 h hs (by show _ ∧ _; exact ⟨by first | assumption | rfl | omega, by first | assumption | rfl | omega⟩) dX2_clearMeasurements_1 ?_
  refine ca_iconst h dX2_clearMeasurements_4 ik_0 ?_
  refine ca_sv h hG ms_X2_69 (c_fillN 8 (hs.1 _ _ _ (by show _ ∧ _; exact ⟨by assumption, by first | assumption | rfl | omega⟩)) rfl rfl) rfl rfl rfl rfl ⟨Nat.le_refl _, Nat.le_refl _⟩ rfl dX2_clearMeasurements_5 ?_
  refine ca_aload_nr h dX2_clearMeasurements_8 rfl ?_
  refine gs_X2_18 h hs (by show _ ∧ _; exact ⟨by first | assumption | rfl | omega, by first | assumption | rfl | omega⟩) dX2_clearMeasurements_9 ?_
  refine ca_iconst h dX2_clearMeasurements_12 ik_m1 ?_
  refine ca_sv h hG ms_X2_69 (c_fillN 8 (hs.1 _ _ _ (by show _ ∧ _; exact ⟨by assumption, by first | assumption | rfl | omega⟩)) rfl rfl) rfl rfl rfl rfl ⟨Nat.le_refl _, Nat.le_refl _⟩ rfl dX2_clearMeasurements_13 ?_
  refine ca_vreturn h hR dX2_clearMeasurements_16 ?_
  exact ⟨rfl, rfl, by simp only [ch_st_nw, ch_sa_na, up_s, up_up, k_clr]⟩
set_option maxHeartbeats 100000 in
theorem c_X2_becomeIdle {l : Launch} {E : ch_E} {S : ch_S} {μ : ch_M} {k i : Nat} (hs : ch_Std E S) (hk : k < 15) (hi : i < 13) : ch_C E l yX2_becomeIdle cX2_becomeIdle 1 none 3 0 0 S μ [.ref (S.1 k 3 i)] (ch_F none S (up μ k (k_idle (μ k) i))) := by
  refine ch_enter rfl rfl ?_
  intro X hl0 h hG hR hnm
  have h : ch_H X E RX2 cX2_becomeIdle 1 := h
  show ch_W X E 1 S μ 0 0 0 [(0, .ref (S.1 k 3 i))] []
  refine ca_aload_nr h dX2_becomeIdle_0 rfl ?_
  refine ca_iconst h dX2_becomeIdle_1 ik_0 ?_
  refine pi_X2_43 h (hs.1 _ _ _ (by show _ ∧ _; exact ⟨by first | assumption | rfl | omega, by first | assumption | rfl | omega⟩)) dX2_becomeIdle_2 ?_
  refine ca_aload_nr h dX2_becomeIdle_5 rfl ?_
  refine ca_iconst h dX2_becomeIdle_6 ik_m1 ?_
  refine pi_X2_21 h (hs.1 _ _ _ (by show _ ∧ _; exact ⟨by first | assumption | rfl | omega, by first | assumption | rfl | omega⟩)) dX2_becomeIdle_7 ?_
  refine ca_aload_nr h dX2_becomeIdle_10 rfl ?_
  refine ca_iconst h dX2_becomeIdle_11 ik_0 ?_
  refine pi_X2_46 h (hs.1 _ _ _ (by show _ ∧ _; exact ⟨by first | assumption | rfl | omega, by first | assumption | rfl | omega⟩)) dX2_becomeIdle_12 ?_
  refine ca_aload_nr h dX2_becomeIdle_15 rfl ?_
  refine ca_iconst h dX2_becomeIdle_16 ik_0 ?_
  refine pi_X2_49 h (hs.1 _ _ _ (by show _ ∧ _; exact ⟨by first | assumption | rfl | omega, by first | assumption | rfl | omega⟩)) dX2_becomeIdle_17 ?_
  refine ca_aload_nr h dX2_becomeIdle_20 rfl ?_
  refine ca_iconst h dX2_becomeIdle_21 ik_m1 ?_
  refine pi_X2_25 h (hs.1 _ _ _ (by show _ ∧ _; exact ⟨by first | assumption | rfl | omega, by first | assumption | rfl | omega⟩)) dX2_becomeIdle_22 ?_
  refine ca_aload_nr h dX2_becomeIdle_25 rfl ?_
  refine ca_iconst h dX2_becomeIdle_26 ik_0 ?_
  refine pi_X2_52 h (hs.1 _ _ _ (by show _ ∧ _; exact ⟨by first | assumption | rfl | omega, by first | assumption | rfl | omega⟩)) dX2_becomeIdle_27 ?_
  refine ca_aload_nr h dX2_becomeIdle_30 rfl ?_
  refine ca_vv h hG ml_X2_55 (c_X2_clearMeasurements hs hk (by omega)) (ci := 2) rfl rfl rfl (hs.1 _ _ _ (by show _ ∧ _; exact ⟨by first | assumption | rfl | omega, by first | assumption | rfl | omega⟩)) rfl rfl rfl rfl ⟨Nat.le_refl _, Nat.le_refl _⟩ rfl dX2_becomeIdle_31 ?_
  refine ca_vreturn h hR dX2_becomeIdle_34 ?_
  exact ⟨rfl, rfl, by simp only [ch_st_nw, ch_sa_na, up_s, up_up, k_idle]⟩
set_option maxHeartbeats 100000 in
theorem c_X2_place {l : Launch} {E : ch_E} {S : ch_S} {μ : ch_M} {k i : Nat} (hs : ch_Std E S) (hk : k < 15) (hi : i < 13) {x y vx vy : Int32} : ch_C E l yX2_place cX2_place 5 none 4 0 0 S μ [.ref (S.1 k 3 i), .int x, .int y, .int vx, .int vy] (ch_F none S (up μ k (k_plc (μ k) i x y vx vy))) := by
  refine ch_enter rfl rfl ?_
  intro X hl0 h hG hR hnm
  have h : ch_H X E RX2 cX2_place 5 := h
  show ch_W X E 5 S μ 0 0 0 [(0, .ref (S.1 k 3 i)), (1, .int x), (2, .int y), (3, .int vx), (4, .int vy)] []
  refine ca_aload_nr h dX2_place_0 rfl ?_
  refine ca_iload_n h dX2_place_1 rfl ?_
  refine pi_X2_28 h (hs.1 _ _ _ (by show _ ∧ _; exact ⟨by first | assumption | rfl | omega, by first | assumption | rfl | omega⟩)) dX2_place_2 ?_
  refine ca_aload_nr h dX2_place_5 rfl ?_
  refine ca_iload_n h dX2_place_6 rfl ?_
  refine pi_X2_31 h (hs.1 _ _ _ (by show _ ∧ _; exact ⟨by first | assumption | rfl | omega, by first | assumption | rfl | omega⟩)) dX2_place_7 ?_
  refine ca_aload_nr h dX2_place_10 rfl ?_
  refine ca_iload_n h dX2_place_11 rfl ?_
  refine pi_X2_34 h (hs.1 _ _ _ (by show _ ∧ _; exact ⟨by first | assumption | rfl | omega, by first | assumption | rfl | omega⟩)) dX2_place_12 ?_
  refine ca_aload_nr h dX2_place_15 rfl ?_
  refine ca_iload h dX2_place_16 rfl ?_
  refine pi_X2_37 h (hs.1 _ _ _ (by show _ ∧ _; exact ⟨by first | assumption | rfl | omega, by first | assumption | rfl | omega⟩)) dX2_place_18 ?_
  refine ca_aload_nr h dX2_place_21 rfl ?_
  refine ca_vv h hG ml_X2_40 (c_X2_becomeIdle hs hk (by omega)) (ci := 2) rfl rfl rfl (hs.1 _ _ _ (by show _ ∧ _; exact ⟨by first | assumption | rfl | omega, by first | assumption | rfl | omega⟩)) rfl rfl rfl rfl ⟨Nat.le_refl _, Nat.le_refl _⟩ rfl dX2_place_22 ?_
  refine ca_vreturn h hR dX2_place_25 ?_
  exact ⟨rfl, rfl, by simp only [ch_st_nw, ch_sa_na, up_s, up_up, k_plc]⟩
set_option maxHeartbeats 100000 in
theorem c_X2_beginToTalk {l : Launch} {E : ch_E} {S : ch_S} {μ : ch_M} {k i : Nat} (hs : ch_Std E S) (hk : k < 15) (hi : i < 13) {c : Int32} : ch_C E l yX2_beginToTalk cX2_beginToTalk 2 none 3 0 0 S μ [.ref (S.1 k 3 i), .int c] (ch_F none S (up μ k (k_beg (μ k) i c))) := by
  refine ch_enter rfl rfl ?_
  intro X hl0 h hG hR hnm
  have h : ch_H X E RX2 cX2_beginToTalk 2 := h
  show ch_W X E 2 S μ 0 0 0 [(0, .ref (S.1 k 3 i)), (1, .int c)] []
  refine ca_aload_nr h dX2_beginToTalk_0 rfl ?_
  refine ca_iconst h dX2_beginToTalk_1 ik_1 ?_
  refine pi_X2_43 h (hs.1 _ _ _ (by show _ ∧ _; exact ⟨by first | assumption | rfl | omega, by first | assumption | rfl | omega⟩)) dX2_beginToTalk_2 ?_
  refine ca_aload_nr h dX2_beginToTalk_5 rfl ?_
  refine ca_iload_n h dX2_beginToTalk_6 rfl ?_
  refine pi_X2_21 h (hs.1 _ _ _ (by show _ ∧ _; exact ⟨by first | assumption | rfl | omega, by first | assumption | rfl | omega⟩)) dX2_beginToTalk_7 ?_
  refine ca_aload_nr h dX2_beginToTalk_10 rfl ?_
  refine ca_iconst h dX2_beginToTalk_11 ik_0 ?_
  refine pi_X2_49 h (hs.1 _ _ _ (by show _ ∧ _; exact ⟨by first | assumption | rfl | omega, by first | assumption | rfl | omega⟩)) dX2_beginToTalk_12 ?_
  refine ca_aload_nr h dX2_beginToTalk_15 rfl ?_
  refine ca_iconst h dX2_beginToTalk_16 ik_m1 ?_
  refine pi_X2_25 h (hs.1 _ _ _ (by show _ ∧ _; exact ⟨by first | assumption | rfl | omega, by first | assumption | rfl | omega⟩)) dX2_beginToTalk_17 ?_
  refine ca_aload_nr h dX2_beginToTalk_20 rfl ?_
  refine ca_vv h hG ml_X2_55 (c_X2_clearMeasurements hs hk (by omega)) (ci := 2) rfl rfl rfl (hs.1 _ _ _ (by show _ ∧ _; exact ⟨by first | assumption | rfl | omega, by first | assumption | rfl | omega⟩)) rfl rfl rfl rfl ⟨Nat.le_refl _, Nat.le_refl _⟩ rfl dX2_beginToTalk_21 ?_
  refine ca_vreturn h hR dX2_beginToTalk_24 ?_
  exact ⟨rfl, rfl, by simp only [ch_st_nw, ch_sa_na, up_s, up_up, k_beg]⟩
set_option maxHeartbeats 100000 in
theorem c_X2_makeRequest {l : Launch} {E : ch_E} {S : ch_S} {μ : ch_M} {k i : Nat} (hs : ch_Std E S) (hk : k < 15) (hi : i < 13) {c t : Int32} : ch_C E l yX2_makeRequest cX2_makeRequest 3 none 1 0 0 S μ [.ref (S.1 k 3 i), .int c, .int t] (ch_F none S (up μ k (k_mrq (μ k) i c t))) := by
  refine ch_enter rfl rfl ?_
  intro X hl0 h hG hR hnm
  have h : ch_H X E RX2 cX2_makeRequest 3 := h
  show ch_W X E 3 S μ 0 0 0 [(0, .ref (S.1 k 3 i)), (1, .int c), (2, .int t)] []
  refine ca_aload_nr h dX2_makeRequest_0 rfl ?_
  refine ca_iload_n h dX2_makeRequest_1 rfl ?_
  refine pi_X2_25 h (hs.1 _ _ _ (by show _ ∧ _; exact ⟨by first | assumption | rfl | omega, by first | assumption | rfl | omega⟩)) dX2_makeRequest_2 ?_
  refine ca_aload_nr h dX2_makeRequest_5 rfl ?_
  refine ca_iload_n h dX2_makeRequest_6 rfl ?_
  refine pi_X2_52 h (hs.1 _ _ _ (by show _ ∧ _; exact ⟨by first | assumption | rfl | omega, by first | assumption | rfl | omega⟩)) dX2_makeRequest_7 ?_
  refine ca_vreturn h hR dX2_makeRequest_10 ?_
  exact ⟨rfl, rfl, by simp only [ch_st_nw, ch_sa_na, up_s, up_up, k_mrq]⟩
set_option maxHeartbeats 100000 in
theorem c_X2_waitForSetUp {l : Launch} {E : ch_E} {S : ch_S} {μ : ch_M} {k i : Nat} (hs : ch_Std E S) (hk : k < 15) (hi : i < 13) {c t : Int32} : ch_C E l yX2_waitForSetUp cX2_waitForSetUp 3 none 2 0 0 S μ [.ref (S.1 k 3 i), .int c, .int t] (ch_F none S (up μ k (k_wfs (μ k) i c t))) := by
  refine ch_enter rfl rfl ?_
  intro X hl0 h hG hR hnm
  have h : ch_H X E RX2 cX2_waitForSetUp 3 := h
  show ch_W X E 3 S μ 0 0 0 [(0, .ref (S.1 k 3 i)), (1, .int c), (2, .int t)] []
  refine ca_aload_nr h dX2_waitForSetUp_0 rfl ?_
  refine ca_iconst h dX2_waitForSetUp_1 ik_2 ?_
  refine pi_X2_43 h (hs.1 _ _ _ (by show _ ∧ _; exact ⟨by first | assumption | rfl | omega, by first | assumption | rfl | omega⟩)) dX2_waitForSetUp_2 ?_
  refine ca_aload_nr h dX2_waitForSetUp_5 rfl ?_
  refine ca_iload_n h dX2_waitForSetUp_6 rfl ?_
  refine ca_iload_n h dX2_waitForSetUp_7 rfl ?_
  refine ca_vv h hG ml_X2_58 (c_X2_makeRequest hs hk (by omega)) (ci := 2) rfl rfl rfl (hs.1 _ _ _ (by show _ ∧ _; exact ⟨by first | assumption | rfl | omega, by first | assumption | rfl | omega⟩)) rfl rfl rfl rfl ⟨Nat.le_refl _, Nat.le_refl _⟩ rfl dX2_waitForSetUp_8 ?_
  refine ca_vreturn h hR dX2_waitForSetUp_11 ?_
  exact ⟨rfl, rfl, by simp only [ch_st_nw, ch_sa_na, up_s, up_up, k_wfs]⟩
set_option maxHeartbeats 100000 in
theorem c_X2_reportsOf {l : Launch} {E : ch_E} {S : ch_S} {μ : ch_M} {k i : Nat} (hs : ch_Std E S) (hk : k < 15) (hi : i < 13) {x : Int32} : ch_C E l yX2_reportsOf cX2_reportsOf 2 (some FieldType.int) 1 0 0 S μ [.ref (S.1 k 3 i), .int x] (ch_F (some (.int (k_rep (μ k) i x))) S (μ)) := by
  refine ch_enter rfl rfl ?_
  intro X hl0 h hG hR hnm
  have h : ch_H X E RX2 cX2_reportsOf 2 := h
  show ch_W X E 2 S μ 0 0 0 [(0, .ref (S.1 k 3 i)), (1, .int x)] []
  refine ca_iload_n h dX2_reportsOf_0 rfl ?_
  refine ca_if_lt (tgt := 22) h dX2_reportsOf_1 (by decide) (fun c_1 => ?_) (fun c_1 => ?_)
  ·
    refine ca_iconst h dX2_reportsOf_22 ik_0 ?_
    refine ca_ireturn h hR rfl dX2_reportsOf_23 ?_
    exact ⟨by simp [k_rep, c_1], rfl, rfl⟩
  ·
    refine ca_iload_n h dX2_reportsOf_4 rfl ?_
    refine ca_aload_nr h dX2_reportsOf_5 rfl ?_
    refine gs_X2_15 h hs (by show _ ∧ _; exact ⟨by first | assumption | rfl | omega, by first | assumption | rfl | omega⟩) dX2_reportsOf_6 ?_
    refine ca_alen h rfl (by decide) (hs.1 _ _ _ (by show _ ∧ _; exact ⟨by first | assumption | rfl | omega, by first | assumption | rfl | omega⟩)) al_8 dX2_reportsOf_9 ?_
    refine ca_icmp_ge (tgt := 22) h dX2_reportsOf_10 (by decide) (fun c_10 => ?_) (fun c_10 => ?_)
    ·
      refine ca_iconst h dX2_reportsOf_22 ik_0 ?_
      refine ca_ireturn h hR rfl dX2_reportsOf_23 ?_
      exact ⟨by simp [k_rep, c_1, c_10], rfl, rfl⟩
    ·
      refine ca_aload_nr h dX2_reportsOf_13 rfl ?_
      refine gs_X2_15 h hs (by show _ ∧ _; exact ⟨by first | assumption | rfl | omega, by first | assumption | rfl | omega⟩) dX2_reportsOf_14 ?_
      refine ca_iload_n h dX2_reportsOf_17 rfl ?_
      refine ca_iald h rfl (hs.1 _ _ _ (by show _ ∧ _; exact ⟨by first | assumption | rfl | omega, by first | assumption | rfl | omega⟩)) (vp_lt c_1 c_10 (n := 8) rfl (by decide)) dX2_reportsOf_18 ?_
      refine ca_goto (tgt := 23) h dX2_reportsOf_19 (by decide) ?_
      refine ca_ireturn h hR rfl dX2_reportsOf_23 ?_
      exact ⟨by simp [k_rep, c_1, c_10], rfl, rfl⟩
set_option maxHeartbeats 100000 in
theorem c_X2_clearReports {l : Launch} {E : ch_E} {S : ch_S} {μ : ch_M} {k i : Nat} (hs : ch_Std E S) (hk : k < 15) (hi : i < 13) {x : Int32} : ch_C E l yX2_clearReports cX2_clearReports 2 none 1 0 0 S μ [.ref (S.1 k 3 i), .int x] (ch_F none S (up μ k (k_crp (μ k) i x))) := by
  refine ch_enter rfl rfl ?_
  intro X hl0 h hG hR hnm
  have h : ch_H X E RX2 cX2_clearReports 2 := h
  show ch_W X E 2 S μ 0 0 0 [(0, .ref (S.1 k 3 i)), (1, .int x)] []
  refine ca_iload_n h dX2_clearReports_0 rfl ?_
  refine ca_if_lt (tgt := 20) h dX2_clearReports_1 (by decide) (fun c_1 => ?_) (fun c_1 => ?_)
  ·
    refine ca_vreturn h hR dX2_clearReports_20 ?_
    exact ⟨rfl, rfl, by simp [k_crp, ch_st_nw, up_id, c_1]⟩
  ·
    refine ca_iload_n h dX2_clearReports_4 rfl ?_
    refine ca_aload_nr h dX2_clearReports_5 rfl ?_
    refine gs_X2_15 h hs (by show _ ∧ _; exact ⟨by first | assumption | rfl | omega, by first | assumption | rfl | omega⟩) dX2_clearReports_6 ?_
    refine ca_alen h rfl (by decide) (hs.1 _ _ _ (by show _ ∧ _; exact ⟨by first | assumption | rfl | omega, by first | assumption | rfl | omega⟩)) al_8 dX2_clearReports_9 ?_
    refine ca_icmp_ge (tgt := 20) h dX2_clearReports_10 (by decide) (fun c_10 => ?_) (fun c_10 => ?_)
    ·
      refine ca_vreturn h hR dX2_clearReports_20 ?_
      exact ⟨rfl, rfl, by simp [k_crp, ch_st_nw, up_id, c_1, c_10]⟩
    ·
      refine ca_aload_nr h dX2_clearReports_13 rfl ?_
      refine gs_X2_15 h hs (by show _ ∧ _; exact ⟨by first | assumption | rfl | omega, by first | assumption | rfl | omega⟩) dX2_clearReports_14 ?_
      refine ca_iload_n h dX2_clearReports_17 rfl ?_
      refine ca_iconst h dX2_clearReports_18 ik_0 ?_
      refine ca_iast h rfl (hs.1 _ _ _ (by show _ ∧ _; exact ⟨by first | assumption | rfl | omega, by first | assumption | rfl | omega⟩)) (vp_lt c_1 c_10 (n := 8) rfl (by decide)) dX2_clearReports_19 ?_
      refine ca_vreturn h hR dX2_clearReports_20 ?_
      exact ⟨rfl, rfl, by simp [k_crp, ch_st_nw, up_id, c_1, c_10]⟩
set_option maxHeartbeats 100000 in
theorem c_X2_bar {l : Launch} {E : ch_E} {S : ch_S} {μ : ch_M} {k i : Nat} (hs : ch_Std E S) (hk : k < 15) (hi : i < 13) {x t : Int32} : ch_C E l yX2_bar cX2_bar 3 none 1 0 0 S μ [.ref (S.1 k 3 i), .int x, .int t] (ch_F none S (up μ k (k_bar (μ k) i x t))) := by
  refine ch_enter rfl rfl ?_
  intro X hl0 h hG hR hnm
  have h : ch_H X E RX2 cX2_bar 3 := h
  show ch_W X E 3 S μ 0 0 0 [(0, .ref (S.1 k 3 i)), (1, .int x), (2, .int t)] []
  refine ca_iload_n h dX2_bar_0 rfl ?_
  refine ca_if_lt (tgt := 20) h dX2_bar_1 (by decide) (fun c_1 => ?_) (fun c_1 => ?_)
  ·
    refine ca_vreturn h hR dX2_bar_20 ?_
    exact ⟨rfl, rfl, by simp [k_bar, ch_st_nw, up_id, c_1]⟩
  ·
    refine ca_iload_n h dX2_bar_4 rfl ?_
    refine ca_aload_nr h dX2_bar_5 rfl ?_
    refine gs_X2_18 h hs (by show _ ∧ _; exact ⟨by first | assumption | rfl | omega, by first | assumption | rfl | omega⟩) dX2_bar_6 ?_
    refine ca_alen h rfl (by decide) (hs.1 _ _ _ (by show _ ∧ _; exact ⟨by first | assumption | rfl | omega, by first | assumption | rfl | omega⟩)) al_8 dX2_bar_9 ?_
    refine ca_icmp_ge (tgt := 20) h dX2_bar_10 (by decide) (fun c_10 => ?_) (fun c_10 => ?_)
    ·
      refine ca_vreturn h hR dX2_bar_20 ?_
      exact ⟨rfl, rfl, by simp [k_bar, ch_st_nw, up_id, c_1, c_10]⟩
    ·
      refine ca_aload_nr h dX2_bar_13 rfl ?_
      refine gs_X2_18 h hs (by show _ ∧ _; exact ⟨by first | assumption | rfl | omega, by first | assumption | rfl | omega⟩) dX2_bar_14 ?_
      refine ca_iload_n h dX2_bar_17 rfl ?_
      refine ca_iload_n h dX2_bar_18 rfl ?_
      refine ca_iast h rfl (hs.1 _ _ _ (by show _ ∧ _; exact ⟨by first | assumption | rfl | omega, by first | assumption | rfl | omega⟩)) (vp_lt c_1 c_10 (n := 8) rfl (by decide)) dX2_bar_19 ?_
      refine ca_vreturn h hR dX2_bar_20 ?_
      exact ⟨rfl, rfl, by simp [k_bar, ch_st_nw, up_id, c_1, c_10]⟩
set_option maxHeartbeats 100000 in
theorem c_X2_isBarredAt {l : Launch} {E : ch_E} {S : ch_S} {μ : ch_M} {k i : Nat} (hs : ch_Std E S) (hk : k < 15) (hi : i < 13) {x t : Int32} : ch_C E l yX2_isBarredAt cX2_isBarredAt 3 (some FieldType.boolean) 1 0 0 S μ [.ref (S.1 k 3 i), .int x, .int t] (ch_F (some (.int (bI (k_isb (μ k) i x t)))) S (μ)) := by
  refine ch_enter rfl rfl ?_
  intro X hl0 h hG hR hnm
  have h : ch_H X E RX2 cX2_isBarredAt 3 := h
  show ch_W X E 3 S μ 0 0 0 [(0, .ref (S.1 k 3 i)), (1, .int x), (2, .int t)] []
  refine ca_iload_n h dX2_isBarredAt_0 rfl ?_
  refine ca_if_lt (tgt := 27) h dX2_isBarredAt_1 (by decide) (fun c_1 => ?_) (fun c_1 => ?_)
  ·
    refine ca_iconst h dX2_isBarredAt_27 ik_0 ?_
    refine ca_ireturn h hR rfl dX2_isBarredAt_28 ?_
    exact ⟨by simp [k_isb, bI, c_1], rfl, rfl⟩
  ·
    refine ca_iload_n h dX2_isBarredAt_4 rfl ?_
    refine ca_aload_nr h dX2_isBarredAt_5 rfl ?_
    refine gs_X2_18 h hs (by show _ ∧ _; exact ⟨by first | assumption | rfl | omega, by first | assumption | rfl | omega⟩) dX2_isBarredAt_6 ?_
    refine ca_alen h rfl (by decide) (hs.1 _ _ _ (by show _ ∧ _; exact ⟨by first | assumption | rfl | omega, by first | assumption | rfl | omega⟩)) al_8 dX2_isBarredAt_9 ?_
    refine ca_icmp_ge (tgt := 27) h dX2_isBarredAt_10 (by decide) (fun c_10 => ?_) (fun c_10 => ?_)
    ·
      refine ca_iconst h dX2_isBarredAt_27 ik_0 ?_
      refine ca_ireturn h hR rfl dX2_isBarredAt_28 ?_
      exact ⟨by simp [k_isb, bI, c_1, c_10], rfl, rfl⟩
    ·
      refine ca_iload_n h dX2_isBarredAt_13 rfl ?_
      refine ca_aload_nr h dX2_isBarredAt_14 rfl ?_
      refine gs_X2_18 h hs (by show _ ∧ _; exact ⟨by first | assumption | rfl | omega, by first | assumption | rfl | omega⟩) dX2_isBarredAt_15 ?_
      refine ca_iload_n h dX2_isBarredAt_18 rfl ?_
      refine ca_iald h rfl (hs.1 _ _ _ (by show _ ∧ _; exact ⟨by first | assumption | rfl | omega, by first | assumption | rfl | omega⟩)) (vp_lt c_1 c_10 (n := 8) rfl (by decide)) dX2_isBarredAt_19 ?_
      refine ca_icmp_gt (tgt := 27) h dX2_isBarredAt_20 (by decide) (fun c_20 => ?_) (fun c_20 => ?_)
      ·
        refine ca_iconst h dX2_isBarredAt_27 ik_0 ?_
        refine ca_ireturn h hR rfl dX2_isBarredAt_28 ?_
        exact ⟨by simp [k_isb, bI, c_1, c_10, c_20], rfl, rfl⟩
      ·
        refine ca_iconst h dX2_isBarredAt_23 ik_1 ?_
        refine ca_goto (tgt := 28) h dX2_isBarredAt_24 (by decide) ?_
        refine ca_ireturn h hR rfl dX2_isBarredAt_28 ?_
        exact ⟨by simp [k_isb, bI, c_1, c_10, c_20], rfl, rfl⟩
set_option maxHeartbeats 100000 in
theorem c_X2_dropOldest {l : Launch} {E : ch_E} {S : ch_S} {μ : ch_M} {k i a q : Nat} (hs : ch_Std E S) (hk : k < 15) (hi : i < 13) (ha : a + q ≤ 64) (hq : 1 ≤ q) : ch_C E l yX2_dropOldest cX2_dropOldest 4 none 1 0 0 S μ [.ref (S.1 k 3 i), .int (nI a), .int (nI q)] (ch_F none S (up μ k (k_drp (μ k) i a q))) := by
  refine ch_enter rfl rfl ?_
  intro X hl0 h hG hR hnm
  have h : ch_H X E RX2 cX2_dropOldest 4 := h
  show ch_W X E 4 S μ 0 0 0 [(0, .ref (S.1 k 3 i)), (1, .int (nI a)), (2, .int (nI q))] []
  refine ca_iload_n h dX2_dropOldest_0 rfl ?_
  refine ca_istore_n h dX2_dropOldest_1 rfl ?_
  have loop_2 : ∀ (jj n : Nat), n + jj = q - 1 → ∀ (x3 : Int32) (e3 : x3 = nI (a + n)) (mm : ch_M) (em : mm = up μ k (na (μ k) 4 i (fun t => if a ≤ t ∧ t < a + n then μ k 4 i (t + 1) else μ k 4 i t))), ch_W X E 4 S mm 0 0 2 [(0, .ref (S.1 k 3 i)), (1, .int (nI a)), (2, .int (nI q)), (3, .int x3)] [] := by
    intro jj
    induction jj with
    | zero =>
      intro n hn x3 e3 mm em
      have hn : n = q - 1 := by omega
      subst e3 em
      have eb : nI a + nI q - 1 = nI (a + (q - 1)) := by rw [nI_add, show (1 : Int32) = nI 1 from rfl, pk_sub (by omega)]; congr 1; omega
      refine ca_iload_n h dX2_dropOldest_2 rfl ?_
      refine ca_iload_n h dX2_dropOldest_3 rfl ?_
      refine ca_iload_n h dX2_dropOldest_4 rfl ?_
      refine ca_iadd h dX2_dropOldest_5 ?_
      refine ca_iconst h dX2_dropOldest_6 ik_1 ?_
      refine ca_isub h dX2_dropOldest_7 ?_
      refine ca_icmp_ge (tgt := 46) h dX2_dropOldest_8 (by decide) (fun c_8 => ?_) (fun c_8 => ?_)
      ·
        refine ca_vreturn h hR dX2_dropOldest_46 ?_
        exact ⟨rfl, rfl, by rw [hn]; rfl⟩
      · exact absurd c_8 (by rw [eb, hn]; exact nI_nlt (Nat.le_refl _) (by omega))
    | succ jj ih_2 =>
      intro n hn x3 e3 mm em
      have hn1 : n < q - 1 := by omega
      subst e3 em
      have eb : nI a + nI q - 1 = nI (a + (q - 1)) := by rw [nI_add, show (1 : Int32) = nI 1 from rfl, pk_sub (by omega)]; congr 1; omega
      have e63 : (64 : Int32) - 1 = nI 63 := by decide
      have hin : vp_in (nI (a + n)) 64 := vp_in_nI (by omega) (by decide)
      have hin1 : vp_in (nI (a + n) + 1) 64 := by rw [nI_1]; exact vp_in_nI (by omega) (by decide)
      refine ca_iload_n h dX2_dropOldest_2 rfl ?_
      refine ca_iload_n h dX2_dropOldest_3 rfl ?_
      refine ca_iload_n h dX2_dropOldest_4 rfl ?_
      refine ca_iadd h dX2_dropOldest_5 ?_
      refine ca_iconst h dX2_dropOldest_6 ik_1 ?_
      refine ca_isub h dX2_dropOldest_7 ?_
      refine ca_icmp_ge (tgt := 46) h dX2_dropOldest_8 (by decide) (fun c_8 => ?_) (fun c_8 => ?_)
      · exact absurd (by rw [eb]; exact nI_lt (by omega) (by omega)) c_8
      ·
        refine ca_iload_n h dX2_dropOldest_11 rfl ?_
        refine ca_if_lt (tgt := 40) h dX2_dropOldest_12 (by decide) (fun c_12 => ?_) (fun c_12 => ?_)
        · exact absurd c_12 (nI_pos (by omega))
        ·
          refine ca_iload_n h dX2_dropOldest_15 rfl ?_
          refine ca_aload_nr h dX2_dropOldest_16 rfl ?_
          refine gs_X2_9 h hs (by show _ ∧ _; exact ⟨by first | assumption | rfl | omega, by first | assumption | rfl | omega⟩) dX2_dropOldest_17 ?_
          refine ca_alen h rfl (by decide) (hs.1 _ _ _ (by show _ ∧ _; exact ⟨by first | assumption | rfl | omega, by first | assumption | rfl | omega⟩)) al_64 dX2_dropOldest_20 ?_
          refine ca_iconst h dX2_dropOldest_21 ik_1 ?_
          refine ca_isub h dX2_dropOldest_22 ?_
          refine ca_icmp_ge (tgt := 40) h dX2_dropOldest_23 (by decide) (fun c_23 => ?_) (fun c_23 => ?_)
          · exact absurd (by rw [e63]; exact nI_lt (by omega) (by decide)) c_23
          ·
            refine ca_aload_nr h dX2_dropOldest_26 rfl ?_
            refine gs_X2_9 h hs (by show _ ∧ _; exact ⟨by first | assumption | rfl | omega, by first | assumption | rfl | omega⟩) dX2_dropOldest_27 ?_
            refine ca_iload_n h dX2_dropOldest_30 rfl ?_
            refine ca_aload_nr h dX2_dropOldest_31 rfl ?_
            refine gs_X2_9 h hs (by show _ ∧ _; exact ⟨by first | assumption | rfl | omega, by first | assumption | rfl | omega⟩) dX2_dropOldest_32 ?_
            refine ca_iload_n h dX2_dropOldest_35 rfl ?_
            refine ca_iconst h dX2_dropOldest_36 ik_1 ?_
            refine ca_iadd h dX2_dropOldest_37 ?_
            refine ca_iald h rfl (hs.1 _ _ _ (by show _ ∧ _; exact ⟨by first | assumption | rfl | omega, by first | assumption | rfl | omega⟩)) hin1 dX2_dropOldest_38 ?_
            refine ca_iast h rfl (hs.1 _ _ _ (by show _ ∧ _; exact ⟨by first | assumption | rfl | omega, by first | assumption | rfl | omega⟩)) hin dX2_dropOldest_39 ?_
            refine ca_iinc h dX2_dropOldest_40 rfl ik_1 rfl ?_
            refine ca_goto (tgt := 2) h dX2_dropOldest_43 (by decide) ?_
            refine ca_pick [1, 2, 3, 0] rfl ?_
            refine ih_2 (n + 1) (by omega) _ (nI_1 _) _ ?_
            rw [nI_1, cn_nI (show a + n < 2 ^ 31 by omega), cn_nI (show a + n + 1 < 2 ^ 31 by omega), ch_st_nw, up_s, up_up]
            congr 1
            funext kd' i' t
            unfold nw na up
            by_cases h1 : kd' = 4
            · by_cases h2 : i' = i
              · subst h1 h2
                simp only [if_true]
                by_cases h3 : t = a + n
                · subst h3
                  simp
                  intro _ h9
                  omega
                · simp only [h3, if_false]
                  by_cases h4 : a ≤ t ∧ t < a + n
                  · rw [if_pos h4, if_pos ⟨h4.1, by omega⟩]
                  · rw [if_neg h4, if_neg (by omega)]
              · simp [h1, h2]
            · simp [h1]
  refine ca_pick [1, 2, 3, 0] rfl ?_
  exact loop_2 _ 0 (Nat.zero_add _) _ rfl _ (by have e : (fun t => if a ≤ t ∧ t < a + 0 then μ k 4 i (t + 1) else μ k 4 i t) = μ k 4 i := (by funext t; rw [if_neg (by omega)]); rw [e]; simp [na, up_id])
set_option maxHeartbeats 100000 in
theorem c_X2_averageOf {l : Launch} {E : ch_E} {S : ch_S} {μ : ch_M} {k i : Nat} (hs : ch_Std E S) (hk : k < 15) (hi : i < 13) (hcnt : ∀ c, c < 8 → Int32.toNatClampNeg (μ k 5 i c) ≤ 8) {x : Int32} : ch_C E l yX2_averageOf cX2_averageOf 6 (some FieldType.int) 1 0 0 S μ [.ref (S.1 k 3 i), .int x] (ch_F (some (.int (k_avg (μ k) i x))) S (μ)) := by
  refine ch_enter rfl rfl ?_
  intro X hl0 h hG hR hnm
  have h : ch_H X E RX2 cX2_averageOf 6 := h
  show ch_W X E 6 S μ 0 0 0 [(0, .ref (S.1 k 3 i)), (1, .int x)] []
  refine ca_iload_n h dX2_averageOf_0 rfl ?_
  refine ca_if_lt (tgt := 22) h dX2_averageOf_1 (by decide) (fun c_1 => ?_) (fun c_1 => ?_)
  ·
    refine ca_iconst h dX2_averageOf_22 ik_0 ?_
    refine ca_istore_n h dX2_averageOf_23 rfl ?_
    refine ca_iload_n h dX2_averageOf_24 rfl ?_
    refine ca_if_gt (tgt := 30) h dX2_averageOf_25 (by decide) (fun c_25 => ?_) (fun c_25 => ?_)
    · exact absurd c_25 (by decide)
    ·
      refine ca_iconst h dX2_averageOf_28 ik_m1 ?_
      refine ca_ireturn h hR rfl dX2_averageOf_29 ?_
      exact ⟨by simp [k_avg, k_rep, c_1, c_25], rfl, rfl⟩
  ·
    refine ca_iload_n h dX2_averageOf_4 rfl ?_
    refine ca_aload_nr h dX2_averageOf_5 rfl ?_
    refine gs_X2_15 h hs (by show _ ∧ _; exact ⟨by first | assumption | rfl | omega, by first | assumption | rfl | omega⟩) dX2_averageOf_6 ?_
    refine ca_alen h rfl (by decide) (hs.1 _ _ _ (by show _ ∧ _; exact ⟨by first | assumption | rfl | omega, by first | assumption | rfl | omega⟩)) al_8 dX2_averageOf_9 ?_
    refine ca_icmp_ge (tgt := 22) h dX2_averageOf_10 (by decide) (fun c_10 => ?_) (fun c_10 => ?_)
    ·
      refine ca_iconst h dX2_averageOf_22 ik_0 ?_
      refine ca_istore_n h dX2_averageOf_23 rfl ?_
      refine ca_iload_n h dX2_averageOf_24 rfl ?_
      refine ca_if_gt (tgt := 30) h dX2_averageOf_25 (by decide) (fun c_25 => ?_) (fun c_25 => ?_)
      · exact absurd c_25 (by decide)
      ·
        refine ca_iconst h dX2_averageOf_28 ik_m1 ?_
        refine ca_ireturn h hR rfl dX2_averageOf_29 ?_
        exact ⟨by simp [k_avg, k_rep, c_1, c_10, c_25], rfl, rfl⟩
    ·
      refine ca_aload_nr h dX2_averageOf_13 rfl ?_
      refine gs_X2_15 h hs (by show _ ∧ _; exact ⟨by first | assumption | rfl | omega, by first | assumption | rfl | omega⟩) dX2_averageOf_14 ?_
      refine ca_iload_n h dX2_averageOf_17 rfl ?_
      refine ca_iald h rfl (hs.1 _ _ _ (by show _ ∧ _; exact ⟨by first | assumption | rfl | omega, by first | assumption | rfl | omega⟩)) (vp_lt c_1 c_10 (n := 8) rfl (by decide)) dX2_averageOf_18 ?_
      refine ca_goto (tgt := 23) h dX2_averageOf_19 (by decide) ?_
      refine ca_istore_n h dX2_averageOf_23 rfl ?_
      refine ca_iload_n h dX2_averageOf_24 rfl ?_
      refine ca_if_gt (tgt := 30) h dX2_averageOf_25 (by decide) (fun c_25 => ?_) (fun c_25 => ?_)
      ·
        obtain ⟨b, hb, rfl⟩ := vp_in_of (vp_lt c_1 c_10 (n := 8) rfl (by decide)) (by decide)
        have hcb := hcnt b hb
        rw [cn_nI (show b < 2 ^ 31 by omega)] at c_25
        have hp : ¬ μ k 5 i b < 0 := fun z => Int32.lt_irrefl (Int32.lt_trans z c_25)
        obtain ⟨q, hq⟩ : ∃ q, q = Int32.toNatClampNeg (μ k 5 i b) := ⟨_, rfl⟩
        have eq : μ k 5 i b = nI q := by rw [hq, nI_cn hp]
        have e8 : nI b * 8 = nI (8 * b) := by rw [show (8 : Int32) = nI 8 from rfl, pk_mul]; congr 1; omega
        have erep : k_rep (μ k) i (nI b) = nI q := by simp [k_rep, c_1, c_10, cn_nI (show b < 2 ^ 31 by omega), eq]
        rw [cn_nI (show b < 2 ^ 31 by omega)]
        refine ca_iload_n h dX2_averageOf_30 rfl ?_
        refine ca_bipush h dX2_averageOf_31 bk_8 ?_
        refine ca_imul h dX2_averageOf_33 ?_
        refine ca_istore_n h dX2_averageOf_34 rfl ?_
        refine ca_iconst h dX2_averageOf_35 ik_0 ?_
        refine ca_istore h dX2_averageOf_36 rfl ?_
        refine ca_iload_n h dX2_averageOf_38 rfl ?_
        refine ca_istore h dX2_averageOf_39 rfl ?_
        have loop_41 : ∀ (jj w : Nat), w + jj = q → ∀ (x4 : Int32) (e4 : x4 = k_sum (μ k) i (8 * b) w) (x5 : Int32) (e5 : x5 = nI (8 * b + w)), ch_W X E 6 S μ 0 0 41 [(0, .ref (S.1 k 3 i)), (2, .int (μ k 5 i b)), (3, .int (nI b * 8)), (4, .int x4), (5, .int x5)] [] := by
          intro jj
          induction jj with
          | zero =>
            intro w hn x4 e4 x5 e5
            have hn : w = q := by omega
            subst e4 e5
            have eb : nI b * 8 + μ k 5 i b = nI (8 * b + q) := by rw [e8, eq, nI_add]
            refine ca_iload h dX2_averageOf_41 rfl ?_
            refine ca_iload_n h dX2_averageOf_43 rfl ?_
            refine ca_iload_n h dX2_averageOf_44 rfl ?_
            refine ca_iadd h dX2_averageOf_45 ?_
            refine ca_icmp_ge (tgt := 82) h dX2_averageOf_46 (by decide) (fun c_46 => ?_) (fun c_46 => ?_)
            ·
              refine ca_iload h dX2_averageOf_82 rfl ?_
              refine ca_iload_n h dX2_averageOf_84 rfl ?_
              refine ca_idiv h dX2_averageOf_85 (fun z => by rw [z] at c_25; exact absurd c_25 (by decide)) ?_
              refine ca_ireturn h hR rfl dX2_averageOf_86 ?_
              exact ⟨by unfold k_avg; rw [erep, if_pos (by rw [← eq]; exact c_25), cn_nI (show q < 2 ^ 31 by omega), cn_nI (show b < 2 ^ 31 by omega), eq, hn], rfl, rfl⟩
            · exact absurd c_46 (by rw [eb, hn]; exact nI_nlt (Nat.le_refl _) (by omega))
          | succ jj ih_41 =>
            intro w hn x4 e4 x5 e5
            have hn1 : w < q := by omega
            subst e4 e5
            have eb : nI b * 8 + μ k 5 i b = nI (8 * b + q) := by rw [e8, eq, nI_add]
            have hin : vp_in (nI (8 * b + w)) 64 := vp_in_nI (by omega) (by decide)
            refine ca_iload h dX2_averageOf_41 rfl ?_
            refine ca_iload_n h dX2_averageOf_43 rfl ?_
            refine ca_iload_n h dX2_averageOf_44 rfl ?_
            refine ca_iadd h dX2_averageOf_45 ?_
            refine ca_icmp_ge (tgt := 82) h dX2_averageOf_46 (by decide) (fun c_46 => ?_) (fun c_46 => ?_)
            · exact absurd (by rw [eb]; exact nI_lt (by omega) (by omega)) c_46
            ·
              refine ca_iload h dX2_averageOf_49 rfl ?_
              refine ca_if_lt (tgt := 76) h dX2_averageOf_51 (by decide) (fun c_51 => ?_) (fun c_51 => ?_)
              · exact absurd c_51 (nI_pos (by omega))
              ·
                refine ca_iload h dX2_averageOf_54 rfl ?_
                refine ca_aload_nr h dX2_averageOf_56 rfl ?_
                refine gs_X2_9 h hs (by show _ ∧ _; exact ⟨by first | assumption | rfl | omega, by first | assumption | rfl | omega⟩) dX2_averageOf_57 ?_
                refine ca_alen h rfl (by decide) (hs.1 _ _ _ (by show _ ∧ _; exact ⟨by first | assumption | rfl | omega, by first | assumption | rfl | omega⟩)) al_64 dX2_averageOf_60 ?_
                refine ca_icmp_ge (tgt := 76) h dX2_averageOf_61 (by decide) (fun c_61 => ?_) (fun c_61 => ?_)
                · exact absurd (nI_lt (b := 64) (by omega) (by decide)) c_61
                ·
                  refine ca_iload h dX2_averageOf_64 rfl ?_
                  refine ca_aload_nr h dX2_averageOf_66 rfl ?_
                  refine gs_X2_9 h hs (by show _ ∧ _; exact ⟨by first | assumption | rfl | omega, by first | assumption | rfl | omega⟩) dX2_averageOf_67 ?_
                  refine ca_iload h dX2_averageOf_70 rfl ?_
                  refine ca_iald h rfl (hs.1 _ _ _ (by show _ ∧ _; exact ⟨by first | assumption | rfl | omega, by first | assumption | rfl | omega⟩)) hin dX2_averageOf_72 ?_
                  refine ca_iadd h dX2_averageOf_73 ?_
                  refine ca_istore h dX2_averageOf_74 rfl ?_
                  refine ca_iinc h dX2_averageOf_76 rfl ik_1 rfl ?_
                  refine ca_goto (tgt := 41) h dX2_averageOf_79 (by decide) ?_
                  refine ca_pick [2, 3, 4, 1, 0] rfl ?_
                  exact ih_41 (w + 1) (by omega) _ (by rw [cn_nI (show 8 * b + w < 2 ^ 31 by omega)]; rfl) _ (nI_1 _)
        refine ca_pick [4, 3, 2, 1, 0] rfl ?_
        exact loop_41 _ 0 (Nat.zero_add _) _ rfl _ e8
      ·
        refine ca_iconst h dX2_averageOf_28 ik_m1 ?_
        refine ca_ireturn h hR rfl dX2_averageOf_29 ?_
        exact ⟨by simp [k_avg, k_rep, c_1, c_10, c_25], rfl, rfl⟩
set_option maxHeartbeats 100000 in
theorem c_X2_addReport {l : Launch} {E : ch_E} {S : ch_S} {μ : ch_M} {k i c w : Nat} (hs : ch_Std E S) (hk : k < 15) (hi : i < 13) (hc : c < 8) (hcnt : ¬ μ k 5 i c < 0 ∧ Int32.toNatClampNeg (μ k 5 i c) ≤ 8) (hw : 1 ≤ w ∧ w ≤ 8) {v : Int32} : ch_C E l yX2_addReport cX2_addReport 7 none 2 0 0 S μ [.ref (S.1 k 3 i), .int (nI c), .int v, .int (nI w)] (ch_F none S (up μ k (k_add (μ k) i c v w))) := by
  refine ch_enter rfl rfl ?_
  intro X hl0 h hG hR hnm
  have h : ch_H X E RX2 cX2_addReport 7 := h
  obtain ⟨q, hq⟩ : ∃ q, Int32.toNatClampNeg (μ k 5 i c) = q := ⟨_, rfl⟩
  have eq : μ k 5 i c = nI q := by rw [← hq, nI_cn hcnt.1]
  have hqw : q ≤ 8 := by rw [← hq]; exact hcnt.2
  have hcc : Int32.toNatClampNeg (nI c) = c := nI_clamp (by omega)
  have e8 : nI c * 8 = nI (8 * c) := by rw [show (8 : Int32) = nI 8 from rfl, pk_mul]; congr 1; omega
  have erep : k_rep (μ k) i (nI c) = nI q := by simp [k_rep, nI_pos (show c < 2 ^ 31 by omega), show nI c < 8 from nI_lt (b := 8) hc (by decide), nI_clamp (show c < 2 ^ 31 by omega), eq]
  show ch_W X E 7 S μ 0 0 0 [(0, .ref (S.1 k 3 i)), (1, .int (nI c)), (2, .int v), (3, .int (nI w))] []
  refine ca_aload_nr h dX2_addReport_0 rfl ?_
  refine ca_iload_n h dX2_addReport_1 rfl ?_
  refine ca_vi h hG ml_X2_62 (c_X2_reportsOf hs hk (by omega)) (ci := 2) rfl rfl rfl (hs.1 _ _ _ (by show _ ∧ _; exact ⟨by first | assumption | rfl | omega, by first | assumption | rfl | omega⟩)) rfl rfl rfl rfl ⟨Nat.le_refl _, Nat.le_refl _⟩ rfl dX2_addReport_2 ?_
  refine ca_top erep ?_
  refine ca_istore h dX2_addReport_5 rfl ?_
  refine ca_iload_n h dX2_addReport_7 rfl ?_
  refine ca_bipush h dX2_addReport_8 bk_8 ?_
  refine ca_imul h dX2_addReport_10 ?_
  refine ca_top e8 ?_
  refine ca_istore h dX2_addReport_11 rfl ?_
  refine ca_iload h dX2_addReport_13 rfl ?_
  refine ca_iload_n h dX2_addReport_15 rfl ?_
  refine ca_icmp_lt (tgt := 30) h dX2_addReport_16 (by decide) (fun c_16 => ?_) (fun c_16 => ?_)
  ·
    refine ca_iload h dX2_addReport_30 rfl ?_
    refine ca_iload h dX2_addReport_32 rfl ?_
    refine ca_iadd h dX2_addReport_34 ?_
    have hw0 : q < w := Nat.not_le.mp (fun z => nI_nlt z (by omega) c_16)
    refine ca_top (nI_add _ _) ?_
    refine ca_istore h dX2_addReport_35 rfl ?_
    refine ca_iload_n h dX2_addReport_37 rfl ?_
    refine ca_if_lt (tgt := 65) h dX2_addReport_38 (by decide) (fun c_38 => ?_) (fun c_38 => ?_)
    · exact absurd c_38 (nI_pos (by omega))
    ·
      refine ca_iload_n h dX2_addReport_41 rfl ?_
      refine ca_aload_nr h dX2_addReport_42 rfl ?_
      refine gs_X2_15 h hs (by show _ ∧ _; exact ⟨by first | assumption | rfl | omega, by first | assumption | rfl | omega⟩) dX2_addReport_43 ?_
      refine ca_alen h rfl (by decide) (hs.1 _ _ _ (by show _ ∧ _; exact ⟨by first | assumption | rfl | omega, by first | assumption | rfl | omega⟩)) al_8 dX2_addReport_46 ?_
      refine ca_icmp_ge (tgt := 65) h dX2_addReport_47 (by decide) (fun c_47 => ?_) (fun c_47 => ?_)
      · exact absurd (nI_lt (b := 8) hc (by decide)) c_47
      ·
        refine ca_iload h dX2_addReport_50 rfl ?_
        refine ca_if_lt (tgt := 65) h dX2_addReport_52 (by decide) (fun c_52 => ?_) (fun c_52 => ?_)
        · exact absurd c_52 (nI_pos (by omega))
        ·
          refine ca_iload h dX2_addReport_55 rfl ?_
          refine ca_aload_nr h dX2_addReport_57 rfl ?_
          refine gs_X2_9 h hs (by show _ ∧ _; exact ⟨by first | assumption | rfl | omega, by first | assumption | rfl | omega⟩) dX2_addReport_58 ?_
          refine ca_alen h rfl (by decide) (hs.1 _ _ _ (by show _ ∧ _; exact ⟨by first | assumption | rfl | omega, by first | assumption | rfl | omega⟩)) al_64 dX2_addReport_61 ?_
          refine ca_icmp_lt (tgt := 66) h dX2_addReport_62 (by decide) (fun c_62 => ?_) (fun c_62 => ?_)
          ·
            refine ca_aload_nr h dX2_addReport_66 rfl ?_
            refine gs_X2_9 h hs (by show _ ∧ _; exact ⟨by first | assumption | rfl | omega, by first | assumption | rfl | omega⟩) dX2_addReport_67 ?_
            refine ca_iload h dX2_addReport_70 rfl ?_
            refine ca_iload_n h dX2_addReport_72 rfl ?_
            refine ca_iast h rfl (hs.1 _ _ _ (by show _ ∧ _; exact ⟨by first | assumption | rfl | omega, by first | assumption | rfl | omega⟩)) (vp_in_nI (by omega) (by decide)) dX2_addReport_73 ?_
            refine ca_aload_nr h dX2_addReport_74 rfl ?_
            refine gs_X2_15 h hs (by show _ ∧ _; exact ⟨by first | assumption | rfl | omega, by first | assumption | rfl | omega⟩) dX2_addReport_75 ?_
            refine ca_iload_n h dX2_addReport_78 rfl ?_
            refine ca_iload h dX2_addReport_79 rfl ?_
            refine ca_iconst h dX2_addReport_81 ik_1 ?_
            refine ca_iadd h dX2_addReport_82 ?_
            refine ca_iast h rfl (hs.1 _ _ _ (by show _ ∧ _; exact ⟨by first | assumption | rfl | omega, by first | assumption | rfl | omega⟩)) (vp_in_nI hc (by decide)) dX2_addReport_83 ?_
            refine ca_vreturn h hR dX2_addReport_84 ?_
            exact ⟨rfl, rfl, by rw [nI_clamp (show 8 * c + q < 2 ^ 31 by omega), hcc, k_add, hq, if_pos hw0]; simp only [ch_st_nw, up_s, up_up]⟩
          · exact absurd (nI_lt (b := 64) (by omega) (by decide)) c_62
  ·
    have hw0 : w ≤ q := Nat.not_lt.mp (fun z => c_16 (nI_lt z (by omega)))
    refine ca_aload_nr h dX2_addReport_19 rfl ?_
    refine ca_iload h dX2_addReport_20 rfl ?_
    refine ca_iload h dX2_addReport_22 rfl ?_
    refine ca_vv h hG ml_X2_66 (c_X2_dropOldest hs hk (by omega) (by omega) (by omega)) (ci := 2) rfl rfl rfl (hs.1 _ _ _ (by show _ ∧ _; exact ⟨by first | assumption | rfl | omega, by first | assumption | rfl | omega⟩)) rfl rfl rfl rfl ⟨Nat.le_refl _, Nat.le_refl _⟩ rfl dX2_addReport_24 ?_
    refine ca_iinc h dX2_addReport_27 rfl ik_m1 rfl ?_
    refine ca_iload h dX2_addReport_30 rfl ?_
    refine ca_iload h dX2_addReport_32 rfl ?_
    refine ca_iadd h dX2_addReport_34 ?_
    have em1 : nI q + (-1) = nI (q - 1) := by rw [show q = (q - 1) + 1 by omega, pk_m1]; congr 1
    refine ca_top (show _ = nI (8 * c + (q - 1)) by rw [em1, nI_add]) ?_
    refine ca_istore h dX2_addReport_35 rfl ?_
    refine ca_iload_n h dX2_addReport_37 rfl ?_
    refine ca_if_lt (tgt := 65) h dX2_addReport_38 (by decide) (fun c_38 => ?_) (fun c_38 => ?_)
    · exact absurd c_38 (nI_pos (by omega))
    ·
      refine ca_iload_n h dX2_addReport_41 rfl ?_
      refine ca_aload_nr h dX2_addReport_42 rfl ?_
      refine gs_X2_15 h hs (by show _ ∧ _; exact ⟨by first | assumption | rfl | omega, by first | assumption | rfl | omega⟩) dX2_addReport_43 ?_
      refine ca_alen h rfl (by decide) (hs.1 _ _ _ (by show _ ∧ _; exact ⟨by first | assumption | rfl | omega, by first | assumption | rfl | omega⟩)) al_8 dX2_addReport_46 ?_
      refine ca_icmp_ge (tgt := 65) h dX2_addReport_47 (by decide) (fun c_47 => ?_) (fun c_47 => ?_)
      · exact absurd (nI_lt (b := 8) hc (by decide)) c_47
      ·
        refine ca_iload h dX2_addReport_50 rfl ?_
        refine ca_if_lt (tgt := 65) h dX2_addReport_52 (by decide) (fun c_52 => ?_) (fun c_52 => ?_)
        · exact absurd c_52 (nI_pos (by omega))
        ·
          refine ca_iload h dX2_addReport_55 rfl ?_
          refine ca_aload_nr h dX2_addReport_57 rfl ?_
          refine gs_X2_9 h hs (by show _ ∧ _; exact ⟨by first | assumption | rfl | omega, by first | assumption | rfl | omega⟩) dX2_addReport_58 ?_
          refine ca_alen h rfl (by decide) (hs.1 _ _ _ (by show _ ∧ _; exact ⟨by first | assumption | rfl | omega, by first | assumption | rfl | omega⟩)) al_64 dX2_addReport_61 ?_
          refine ca_icmp_lt (tgt := 66) h dX2_addReport_62 (by decide) (fun c_62 => ?_) (fun c_62 => ?_)
          ·
            refine ca_aload_nr h dX2_addReport_66 rfl ?_
            refine gs_X2_9 h hs (by show _ ∧ _; exact ⟨by first | assumption | rfl | omega, by first | assumption | rfl | omega⟩) dX2_addReport_67 ?_
            refine ca_iload h dX2_addReport_70 rfl ?_
            refine ca_iload_n h dX2_addReport_72 rfl ?_
            refine ca_iast h rfl (hs.1 _ _ _ (by show _ ∧ _; exact ⟨by first | assumption | rfl | omega, by first | assumption | rfl | omega⟩)) (vp_in_nI (by omega) (by decide)) dX2_addReport_73 ?_
            refine ca_aload_nr h dX2_addReport_74 rfl ?_
            refine gs_X2_15 h hs (by show _ ∧ _; exact ⟨by first | assumption | rfl | omega, by first | assumption | rfl | omega⟩) dX2_addReport_75 ?_
            refine ca_iload_n h dX2_addReport_78 rfl ?_
            refine ca_iload h dX2_addReport_79 rfl ?_
            refine ca_iconst h dX2_addReport_81 ik_1 ?_
            refine ca_iadd h dX2_addReport_82 ?_
            refine ca_iast h rfl (hs.1 _ _ _ (by show _ ∧ _; exact ⟨by first | assumption | rfl | omega, by first | assumption | rfl | omega⟩)) (vp_in_nI hc (by decide)) dX2_addReport_83 ?_
            refine ca_vreturn h hR dX2_addReport_84 ?_
            exact ⟨rfl, rfl, by rw [nI_clamp (show 8 * c + (q - 1) < 2 ^ 31 by omega), hcc, em1, k_add, hq, if_neg (by omega)]; simp only [ch_st_nw, up_s, up_up]⟩
          · exact absurd (nI_lt (b := 64) (by omega) (by decide)) c_62
/-- copies: a cell, a relation, a mobile of another network -/
def k_cpc (n : ch_N) (i : Nat) (m : ch_N) (i2 : Nat) : ch_N := nw (nw (nw (nw (nw (nw (nw (nw (nw n 1 i 0 (m 1 i2 0)) 1 i 1 (m 1 i2 1)) 1 i 2 (m 1 i2 2)) 1 i 3 (m 1 i2 3)) 1 i 4 (m 1 i2 4)) 1 i 5 (m 1 i2 5)) 1 i 6 (m 1 i2 6)) 1 i 7 (m 1 i2 7)) 1 i 8 (m 1 i2 8)
def k_cpr (n : ch_N) (i : Nat) (m : ch_N) (i2 : Nat) : ch_N := nw (nw (nw (nw n 2 i 0 (m 2 i2 0)) 2 i 1 (m 2 i2 1)) 2 i 2 (m 2 i2 2)) 2 i 3 (m 2 i2 3)
def k_clr2 (n : ch_N) (i : Nat) : ch_N := nw (nw (nw (nw n 2 i 0 0) 2 i 1 0) 2 i 2 0) 2 i 3 0
def k_cpm (n : ch_N) (i : Nat) (m : ch_N) (i2 : Nat) : ch_N := na (na (na (nw (nw (nw (nw (nw (nw (nw (nw (nw (nw n 3 i 0 (m 3 i2 0)) 3 i 1 (m 3 i2 1)) 3 i 2 (m 3 i2 2)) 3 i 3 (m 3 i2 3)) 3 i 4 (m 3 i2 4)) 3 i 5 (m 3 i2 5)) 3 i 6 (m 3 i2 6)) 3 i 7 (m 3 i2 7)) 3 i 8 (m 3 i2 8)) 3 i 9 (m 3 i2 9)) 4 i (m 4 i2)) 5 i (m 5 i2)) 6 i (m 6 i2)
def k_dfl (n : ch_N) : ch_N := nw (nw (nw (nw (nw (nw n 0 0 4 4) 0 0 5 2) 0 0 6 5) 0 0 7 4) 0 0 8 5) 0 0 9 3
set_option maxHeartbeats 100000 in
theorem c_X0_copyFrom {l : Launch} {E : ch_E} {S : ch_S} {μ : ch_M} {k k2 i i2 : Nat} (hs : ch_Std E S) (hk : k < 15) (hk2 : k2 < 15) (hne : k2 ≠ k) (hi : i < 9) (hi2 : i2 < 9) : ch_C E l yX0_copyFrom cX0_copyFrom 2 none 1 0 0 S μ [.ref (S.1 k 1 i), .ref (S.1 k2 1 i2)] (ch_F none S (up μ k (k_cpc (μ k) i (μ k2) i2))) := by
  refine ch_enter rfl rfl ?_
  intro X hl0 h hG hR hnm
  have h : ch_H X E RX0 cX0_copyFrom 2 := h
  show ch_W X E 2 S μ 0 0 0 [(0, .ref (S.1 k 1 i)), (1, .ref (S.1 k2 1 i2))] []
  refine ca_aload_nr h dX0_copyFrom_0 rfl ?_
  refine ca_aload_nr h dX0_copyFrom_1 rfl ?_
  refine gi_X0_7 h (hs.1 _ _ _ (by show _ ∧ _; exact ⟨by first | assumption | rfl | omega, by first | assumption | rfl | omega⟩)) dX0_copyFrom_2 ?_
  refine pi_X0_7 h (hs.1 _ _ _ (by show _ ∧ _; exact ⟨by first | assumption | rfl | omega, by first | assumption | rfl | omega⟩)) dX0_copyFrom_5 ?_
  refine ca_aload_nr h dX0_copyFrom_8 rfl ?_
  refine ca_aload_nr h dX0_copyFrom_9 rfl ?_
  refine gi_X0_19 h (hs.1 _ _ _ (by show _ ∧ _; exact ⟨by first | assumption | rfl | omega, by first | assumption | rfl | omega⟩)) dX0_copyFrom_10 ?_
  refine pi_X0_19 h (hs.1 _ _ _ (by show _ ∧ _; exact ⟨by first | assumption | rfl | omega, by first | assumption | rfl | omega⟩)) dX0_copyFrom_13 ?_
  refine ca_aload_nr h dX0_copyFrom_16 rfl ?_
  refine ca_aload_nr h dX0_copyFrom_17 rfl ?_
  refine gi_X0_22 h (hs.1 _ _ _ (by show _ ∧ _; exact ⟨by first | assumption | rfl | omega, by first | assumption | rfl | omega⟩)) dX0_copyFrom_18 ?_
  refine pi_X0_22 h (hs.1 _ _ _ (by show _ ∧ _; exact ⟨by first | assumption | rfl | omega, by first | assumption | rfl | omega⟩)) dX0_copyFrom_21 ?_
  refine ca_aload_nr h dX0_copyFrom_24 rfl ?_
  refine ca_aload_nr h dX0_copyFrom_25 rfl ?_
  refine gi_X0_25 h (hs.1 _ _ _ (by show _ ∧ _; exact ⟨by first | assumption | rfl | omega, by first | assumption | rfl | omega⟩)) dX0_copyFrom_26 ?_
  refine pi_X0_25 h (hs.1 _ _ _ (by show _ ∧ _; exact ⟨by first | assumption | rfl | omega, by first | assumption | rfl | omega⟩)) dX0_copyFrom_29 ?_
  refine ca_aload_nr h dX0_copyFrom_32 rfl ?_
  refine ca_aload_nr h dX0_copyFrom_33 rfl ?_
  refine gi_X0_32 h (hs.1 _ _ _ (by show _ ∧ _; exact ⟨by first | assumption | rfl | omega, by first | assumption | rfl | omega⟩)) dX0_copyFrom_34 ?_
  refine pi_X0_32 h (hs.1 _ _ _ (by show _ ∧ _; exact ⟨by first | assumption | rfl | omega, by first | assumption | rfl | omega⟩)) dX0_copyFrom_37 ?_
  refine ca_aload_nr h dX0_copyFrom_40 rfl ?_
  refine ca_aload_nr h dX0_copyFrom_41 rfl ?_
  refine gi_X0_35 h (hs.1 _ _ _ (by show _ ∧ _; exact ⟨by first | assumption | rfl | omega, by first | assumption | rfl | omega⟩)) dX0_copyFrom_42 ?_
  refine pi_X0_35 h (hs.1 _ _ _ (by show _ ∧ _; exact ⟨by first | assumption | rfl | omega, by first | assumption | rfl | omega⟩)) dX0_copyFrom_45 ?_
  refine ca_aload_nr h dX0_copyFrom_48 rfl ?_
  refine ca_aload_nr h dX0_copyFrom_49 rfl ?_
  refine gi_X0_38 h (hs.1 _ _ _ (by show _ ∧ _; exact ⟨by first | assumption | rfl | omega, by first | assumption | rfl | omega⟩)) dX0_copyFrom_50 ?_
  refine pi_X0_38 h (hs.1 _ _ _ (by show _ ∧ _; exact ⟨by first | assumption | rfl | omega, by first | assumption | rfl | omega⟩)) dX0_copyFrom_53 ?_
  refine ca_aload_nr h dX0_copyFrom_56 rfl ?_
  refine ca_aload_nr h dX0_copyFrom_57 rfl ?_
  refine gi_X0_41 h (hs.1 _ _ _ (by show _ ∧ _; exact ⟨by first | assumption | rfl | omega, by first | assumption | rfl | omega⟩)) dX0_copyFrom_58 ?_
  refine pi_X0_41 h (hs.1 _ _ _ (by show _ ∧ _; exact ⟨by first | assumption | rfl | omega, by first | assumption | rfl | omega⟩)) dX0_copyFrom_61 ?_
  refine ca_aload_nr h dX0_copyFrom_64 rfl ?_
  refine ca_aload_nr h dX0_copyFrom_65 rfl ?_
  refine gi_X0_44 h (hs.1 _ _ _ (by show _ ∧ _; exact ⟨by first | assumption | rfl | omega, by first | assumption | rfl | omega⟩)) dX0_copyFrom_66 ?_
  refine pi_X0_44 h (hs.1 _ _ _ (by show _ ∧ _; exact ⟨by first | assumption | rfl | omega, by first | assumption | rfl | omega⟩)) dX0_copyFrom_69 ?_
  refine ca_vreturn h hR dX0_copyFrom_72 ?_
  exact ⟨rfl, rfl, by simp only [ch_st_nw, ch_sa_na, up_s, up_n hne, up_up, k_cpc]⟩
set_option maxHeartbeats 100000 in
theorem c_X7_clear {l : Launch} {E : ch_E} {S : ch_S} {μ : ch_M} {k i : Nat} (hs : ch_Std E S) (hk : k < 15) (hi : i < 65) : ch_C E l yX7_clear cX7_clear 1 none 1 0 0 S μ [.ref (S.1 k 2 i)] (ch_F none S (up μ k (k_clr2 (μ k) i))) := by
  refine ch_enter rfl rfl ?_
  intro X hl0 h hG hR hnm
  have h : ch_H X E RX7 cX7_clear 1 := h
  show ch_W X E 1 S μ 0 0 0 [(0, .ref (S.1 k 2 i))] []
  refine ca_aload_nr h dX7_clear_0 rfl ?_
  refine ca_iconst h dX7_clear_1 ik_0 ?_
  refine pi_X7_7 h (hs.1 _ _ _ (by show _ ∧ _; exact ⟨by first | assumption | rfl | omega, by first | assumption | rfl | omega⟩)) (by first | exact Or.inl rfl | exact Or.inr rfl | assumption) dX7_clear_2 ?_
  refine ca_aload_nr h dX7_clear_5 rfl ?_
  refine ca_iconst h dX7_clear_6 ik_0 ?_
  refine pi_X7_13 h (hs.1 _ _ _ (by show _ ∧ _; exact ⟨by first | assumption | rfl | omega, by first | assumption | rfl | omega⟩)) dX7_clear_7 ?_
  refine ca_aload_nr h dX7_clear_10 rfl ?_
  refine ca_iconst h dX7_clear_11 ik_0 ?_
  refine pi_X7_17 h (hs.1 _ _ _ (by show _ ∧ _; exact ⟨by first | assumption | rfl | omega, by first | assumption | rfl | omega⟩)) dX7_clear_12 ?_
  refine ca_aload_nr h dX7_clear_15 rfl ?_
  refine ca_iconst h dX7_clear_16 ik_0 ?_
  refine pi_X7_20 h (hs.1 _ _ _ (by show _ ∧ _; exact ⟨by first | assumption | rfl | omega, by first | assumption | rfl | omega⟩)) dX7_clear_17 ?_
  refine ca_vreturn h hR dX7_clear_20 ?_
  exact ⟨rfl, rfl, by simp only [ch_st_nw, ch_sa_na, up_s, up_up, k_clr2]⟩
set_option maxHeartbeats 100000 in
theorem c_X7_copyFrom {l : Launch} {E : ch_E} {S : ch_S} {μ : ch_M} {k k2 i i2 : Nat} (hs : ch_Std E S) (hk : k < 15) (hk2 : k2 < 15) (hne : k2 ≠ k) (hi : i < 65) (hi2 : i2 < 65) : ch_C E l yX7_copyFrom cX7_copyFrom 2 none 1 0 0 S μ [.ref (S.1 k 2 i), .ref (S.1 k2 2 i2)] (ch_F none S (up μ k (k_cpr (μ k) i (μ k2) i2))) := by
  refine ch_enter rfl rfl ?_
  intro X hl0 h hG hR hnm
  have h : ch_H X E RX7 cX7_copyFrom 2 := h
  show ch_W X E 2 S μ 0 0 0 [(0, .ref (S.1 k 2 i)), (1, .ref (S.1 k2 2 i2))] []
  refine ca_aload_nr h dX7_copyFrom_0 rfl ?_
  refine ca_aload_nr h dX7_copyFrom_1 rfl ?_
  refine gi_X7_7 h (hs.1 _ _ _ (by show _ ∧ _; exact ⟨by first | assumption | rfl | omega, by first | assumption | rfl | omega⟩)) dX7_copyFrom_2 ?_
  refine ca_bool (k := k2) (kd := 2) (i := i2) (j := 0) (hs.1 _ _ _ (vR hk2 hi2)) rfl rfl (fun hb => ?_)
  refine pi_X7_7 h (hs.1 _ _ _ (by show _ ∧ _; exact ⟨by first | assumption | rfl | omega, by first | assumption | rfl | omega⟩)) hb dX7_copyFrom_5 ?_
  refine ca_aload_nr h dX7_copyFrom_8 rfl ?_
  refine ca_aload_nr h dX7_copyFrom_9 rfl ?_
  refine gi_X7_13 h (hs.1 _ _ _ (by show _ ∧ _; exact ⟨by first | assumption | rfl | omega, by first | assumption | rfl | omega⟩)) dX7_copyFrom_10 ?_
  refine pi_X7_13 h (hs.1 _ _ _ (by show _ ∧ _; exact ⟨by first | assumption | rfl | omega, by first | assumption | rfl | omega⟩)) dX7_copyFrom_13 ?_
  refine ca_aload_nr h dX7_copyFrom_16 rfl ?_
  refine ca_aload_nr h dX7_copyFrom_17 rfl ?_
  refine gi_X7_17 h (hs.1 _ _ _ (by show _ ∧ _; exact ⟨by first | assumption | rfl | omega, by first | assumption | rfl | omega⟩)) dX7_copyFrom_18 ?_
  refine pi_X7_17 h (hs.1 _ _ _ (by show _ ∧ _; exact ⟨by first | assumption | rfl | omega, by first | assumption | rfl | omega⟩)) dX7_copyFrom_21 ?_
  refine ca_aload_nr h dX7_copyFrom_24 rfl ?_
  refine ca_aload_nr h dX7_copyFrom_25 rfl ?_
  refine gi_X7_20 h (hs.1 _ _ _ (by show _ ∧ _; exact ⟨by first | assumption | rfl | omega, by first | assumption | rfl | omega⟩)) dX7_copyFrom_26 ?_
  refine pi_X7_20 h (hs.1 _ _ _ (by show _ ∧ _; exact ⟨by first | assumption | rfl | omega, by first | assumption | rfl | omega⟩)) dX7_copyFrom_29 ?_
  refine ca_vreturn h hR dX7_copyFrom_32 ?_
  exact ⟨rfl, rfl, by simp only [ch_st_nw, ch_sa_na, up_s, up_n hne, up_up, k_cpr]⟩
theorem cpy_all {f g : Nat → Int32} {n : Nat} : ∀ j, j < n → va_cpy f g 0 0 n j = f j := fun j hj => by
  unfold va_cpy
  rw [if_pos ⟨Nat.zero_le _, by omega⟩]
  congr 1
  omega
theorem c_copyInts {l : Launch} {E : ch_E} {S : ch_S} {μ : ch_M} {k0 i0 k kd i : Nat} (n : Nat) (hv0 : S.2.1 k0 kd i0) (hv : S.2.1 k kd i) (hkd : ch_kd kd = .inr (0, 0, n)) (hn : n < 2 ^ 31) : ch_C E l yX11_copyInts cX11_copyInts 2 none 1 0 0 S μ [.ref (S.1 k0 kd i0), .ref (S.1 k kd i)] (ch_F none S (ch_sa μ k kd i (μ k0 kd i0))) := by
  refine ch_enter rfl rfl ?_
  intro X hl0 h hG hR hnm
  have h : ch_H X E RX11 cX11_copyInts 2 := h
  show ch_W X E 2 S μ 0 0 0 [(0, .ref (S.1 k0 kd i0)), (1, .ref (S.1 k kd i))] []
  refine ca_aload_nr h dX11_copyInts_0 rfl ?_
  refine ca_iconst h dX11_copyInts_1 ik_0 ?_
  refine ca_aload_nr h dX11_copyInts_2 rfl ?_
  refine ca_iconst h dX11_copyInts_3 ik_0 ?_
  refine ca_aload_nr h dX11_copyInts_4 rfl ?_
  refine ca_alen h hkd (by decide) hv0 rfl dX11_copyInts_5 ?_
  refine ca_aload_nr h dX11_copyInts_6 rfl ?_
  refine ca_alen h hkd (by decide) hv rfl dX11_copyInts_7 ?_
  refine ca_mmin h hG rfl rfl rfl kw_516 kw_517 kw_15 kw_518 (Nat.le_of_ble_eq_true rfl) dX11_copyInts_8 ?_
  refine ca_top (show _ = nI n from if_neg (nI_nlt (Nat.le_refl n) hn)) ?_
  refine ca_copy h hG rfl kw_519 kw_521 kw_520 kw_16 hkd hkd hv0 hv (by decide) (by decide) (nI_pos hn) (by rw [nI_clamp hn]; simp) (by rw [nI_clamp hn]; simp) rfl dX11_copyInts_11 ?_
  refine ca_agree (μ' := ch_sa μ k kd i (μ k0 kd i0)) (fun k' kd' i' j hv' hj => ?_) ?_
  · by_cases e : k' = k ∧ kd' = kd ∧ i' = i
    · obtain ⟨rfl, rfl, rfl⟩ := e
      rw [ch_len_a hkd] at hj
      rw [ch_sa_same, ch_sa_same, nI_clamp hn]
      exact cpy_all j hj
    · rw [ch_sa_ne e, ch_sa_ne e]
  · refine ca_vreturn h hR dX11_copyInts_14 ?_
    exact ⟨rfl, rfl, rfl⟩
set_option maxHeartbeats 100000 in
theorem c_X2_copyFrom {l : Launch} {E : ch_E} {S : ch_S} {μ : ch_M} {k k2 i i2 : Nat} (hs : ch_Std E S) (hk : k < 15) (hk2 : k2 < 15) (hne : k2 ≠ k) (hi : i < 13) (hi2 : i2 < 13) : ch_C E l yX2_copyFrom cX2_copyFrom 2 none 2 0 0 S μ [.ref (S.1 k 3 i), .ref (S.1 k2 3 i2)] (ch_F none S (up μ k (k_cpm (μ k) i (μ k2) i2))) := by
  refine ch_enter rfl rfl ?_
  intro X hl0 h hG hR hnm
  have h : ch_H X E RX2 cX2_copyFrom 2 := h
  show ch_W X E 2 S μ 0 0 0 [(0, .ref (S.1 k 3 i)), (1, .ref (S.1 k2 3 i2))] []
  refine ca_aload_nr h dX2_copyFrom_0 rfl ?_
  refine ca_aload_nr h dX2_copyFrom_1 rfl ?_
  refine gi_X2_28 h (hs.1 _ _ _ (by show _ ∧ _; exact ⟨by first | assumption | rfl | omega, by first | assumption | rfl | omega⟩)) dX2_copyFrom_2 ?_
  refine pi_X2_28 h (hs.1 _ _ _ (by show _ ∧ _; exact ⟨by first | assumption | rfl | omega, by first | assumption | rfl | omega⟩)) dX2_copyFrom_5 ?_
  refine ca_aload_nr h dX2_copyFrom_8 rfl ?_
  refine ca_aload_nr h dX2_copyFrom_9 rfl ?_
  refine gi_X2_31 h (hs.1 _ _ _ (by show _ ∧ _; exact ⟨by first | assumption | rfl | omega, by first | assumption | rfl | omega⟩)) dX2_copyFrom_10 ?_
  refine pi_X2_31 h (hs.1 _ _ _ (by show _ ∧ _; exact ⟨by first | assumption | rfl | omega, by first | assumption | rfl | omega⟩)) dX2_copyFrom_13 ?_
  refine ca_aload_nr h dX2_copyFrom_16 rfl ?_
  refine ca_aload_nr h dX2_copyFrom_17 rfl ?_
  refine gi_X2_34 h (hs.1 _ _ _ (by show _ ∧ _; exact ⟨by first | assumption | rfl | omega, by first | assumption | rfl | omega⟩)) dX2_copyFrom_18 ?_
  refine pi_X2_34 h (hs.1 _ _ _ (by show _ ∧ _; exact ⟨by first | assumption | rfl | omega, by first | assumption | rfl | omega⟩)) dX2_copyFrom_21 ?_
  refine ca_aload_nr h dX2_copyFrom_24 rfl ?_
  refine ca_aload_nr h dX2_copyFrom_25 rfl ?_
  refine gi_X2_37 h (hs.1 _ _ _ (by show _ ∧ _; exact ⟨by first | assumption | rfl | omega, by first | assumption | rfl | omega⟩)) dX2_copyFrom_26 ?_
  refine pi_X2_37 h (hs.1 _ _ _ (by show _ ∧ _; exact ⟨by first | assumption | rfl | omega, by first | assumption | rfl | omega⟩)) dX2_copyFrom_29 ?_
  refine ca_aload_nr h dX2_copyFrom_32 rfl ?_
  refine ca_aload_nr h dX2_copyFrom_33 rfl ?_
  refine gi_X2_43 h (hs.1 _ _ _ (by show _ ∧ _; exact ⟨by first | assumption | rfl | omega, by first | assumption | rfl | omega⟩)) dX2_copyFrom_34 ?_
  refine pi_X2_43 h (hs.1 _ _ _ (by show _ ∧ _; exact ⟨by first | assumption | rfl | omega, by first | assumption | rfl | omega⟩)) dX2_copyFrom_37 ?_
  refine ca_aload_nr h dX2_copyFrom_40 rfl ?_
  refine ca_aload_nr h dX2_copyFrom_41 rfl ?_
  refine gi_X2_21 h (hs.1 _ _ _ (by show _ ∧ _; exact ⟨by first | assumption | rfl | omega, by first | assumption | rfl | omega⟩)) dX2_copyFrom_42 ?_
  refine pi_X2_21 h (hs.1 _ _ _ (by show _ ∧ _; exact ⟨by first | assumption | rfl | omega, by first | assumption | rfl | omega⟩)) dX2_copyFrom_45 ?_
  refine ca_aload_nr h dX2_copyFrom_48 rfl ?_
  refine ca_aload_nr h dX2_copyFrom_49 rfl ?_
  refine gi_X2_46 h (hs.1 _ _ _ (by show _ ∧ _; exact ⟨by first | assumption | rfl | omega, by first | assumption | rfl | omega⟩)) dX2_copyFrom_50 ?_
  refine pi_X2_46 h (hs.1 _ _ _ (by show _ ∧ _; exact ⟨by first | assumption | rfl | omega, by first | assumption | rfl | omega⟩)) dX2_copyFrom_53 ?_
  refine ca_aload_nr h dX2_copyFrom_56 rfl ?_
  refine ca_aload_nr h dX2_copyFrom_57 rfl ?_
  refine gi_X2_49 h (hs.1 _ _ _ (by show _ ∧ _; exact ⟨by first | assumption | rfl | omega, by first | assumption | rfl | omega⟩)) dX2_copyFrom_58 ?_
  refine pi_X2_49 h (hs.1 _ _ _ (by show _ ∧ _; exact ⟨by first | assumption | rfl | omega, by first | assumption | rfl | omega⟩)) dX2_copyFrom_61 ?_
  refine ca_aload_nr h dX2_copyFrom_64 rfl ?_
  refine ca_aload_nr h dX2_copyFrom_65 rfl ?_
  refine gi_X2_25 h (hs.1 _ _ _ (by show _ ∧ _; exact ⟨by first | assumption | rfl | omega, by first | assumption | rfl | omega⟩)) dX2_copyFrom_66 ?_
  refine pi_X2_25 h (hs.1 _ _ _ (by show _ ∧ _; exact ⟨by first | assumption | rfl | omega, by first | assumption | rfl | omega⟩)) dX2_copyFrom_69 ?_
  refine ca_aload_nr h dX2_copyFrom_72 rfl ?_
  refine ca_aload_nr h dX2_copyFrom_73 rfl ?_
  refine gi_X2_52 h (hs.1 _ _ _ (by show _ ∧ _; exact ⟨by first | assumption | rfl | omega, by first | assumption | rfl | omega⟩)) dX2_copyFrom_74 ?_
  refine pi_X2_52 h (hs.1 _ _ _ (by show _ ∧ _; exact ⟨by first | assumption | rfl | omega, by first | assumption | rfl | omega⟩)) dX2_copyFrom_77 ?_
  refine ca_aload_nr h dX2_copyFrom_80 rfl ?_
  refine gs_X2_9 h hs (by show _ ∧ _; exact ⟨by first | assumption | rfl | omega, by first | assumption | rfl | omega⟩) dX2_copyFrom_81 ?_
  refine ca_aload_nr h dX2_copyFrom_84 rfl ?_
  refine gs_X2_9 h hs (by show _ ∧ _; exact ⟨by first | assumption | rfl | omega, by first | assumption | rfl | omega⟩) dX2_copyFrom_85 ?_
  refine ca_nsv h hG (n := 2) (host := "CellHandover") (List.mem_of_getElem? (i := 6) rfl) kw_514 kw_1 kw_515 ⟨by decide, by decide, by decide +kernel⟩ (c_copyInts 64 (hs.1 _ _ _ (by show _ ∧ _; exact ⟨by first | assumption | omega, by first | assumption | rfl | omega⟩)) (hs.1 _ _ _ (by show _ ∧ _; exact ⟨by first | assumption | omega, by first | assumption | rfl | omega⟩)) rfl (by decide)) rfl rfl rfl rfl ⟨Nat.le_refl _, Nat.le_refl _⟩ rfl dX2_copyFrom_88 ?_
  refine ca_aload_nr h dX2_copyFrom_91 rfl ?_
  refine gs_X2_15 h hs (by show _ ∧ _; exact ⟨by first | assumption | rfl | omega, by first | assumption | rfl | omega⟩) dX2_copyFrom_92 ?_
  refine ca_aload_nr h dX2_copyFrom_95 rfl ?_
  refine gs_X2_15 h hs (by show _ ∧ _; exact ⟨by first | assumption | rfl | omega, by first | assumption | rfl | omega⟩) dX2_copyFrom_96 ?_
  refine ca_nsv h hG (n := 2) (host := "CellHandover") (List.mem_of_getElem? (i := 6) rfl) kw_514 kw_1 kw_515 ⟨by decide, by decide, by decide +kernel⟩ (c_copyInts 8 (hs.1 _ _ _ (by show _ ∧ _; exact ⟨by first | assumption | omega, by first | assumption | rfl | omega⟩)) (hs.1 _ _ _ (by show _ ∧ _; exact ⟨by first | assumption | omega, by first | assumption | rfl | omega⟩)) rfl (by decide)) rfl rfl rfl rfl ⟨Nat.le_refl _, Nat.le_refl _⟩ rfl dX2_copyFrom_99 ?_
  refine ca_aload_nr h dX2_copyFrom_102 rfl ?_
  refine gs_X2_18 h hs (by show _ ∧ _; exact ⟨by first | assumption | rfl | omega, by first | assumption | rfl | omega⟩) dX2_copyFrom_103 ?_
  refine ca_aload_nr h dX2_copyFrom_106 rfl ?_
  refine gs_X2_18 h hs (by show _ ∧ _; exact ⟨by first | assumption | rfl | omega, by first | assumption | rfl | omega⟩) dX2_copyFrom_107 ?_
  refine ca_nsv h hG (n := 2) (host := "CellHandover") (List.mem_of_getElem? (i := 6) rfl) kw_514 kw_1 kw_515 ⟨by decide, by decide, by decide +kernel⟩ (c_copyInts 8 (hs.1 _ _ _ (by show _ ∧ _; exact ⟨by first | assumption | omega, by first | assumption | rfl | omega⟩)) (hs.1 _ _ _ (by show _ ∧ _; exact ⟨by first | assumption | omega, by first | assumption | rfl | omega⟩)) rfl (by decide)) rfl rfl rfl rfl ⟨Nat.le_refl _, Nat.le_refl _⟩ rfl dX2_copyFrom_110 ?_
  refine ca_vreturn h hR dX2_copyFrom_113 ?_
  exact ⟨rfl, rfl, by simp only [ch_st_nw, ch_sa_na, up_s, up_n hne, up_up, k_cpm]⟩
set_option maxHeartbeats 100000 in
theorem c_X3_setDefaults {l : Launch} {E : ch_E} {S : ch_S} {μ : ch_M} {k : Nat} (hs : ch_Std E S) (hk : k < 15) : ch_C E l yX3_setDefaults cX3_setDefaults 1 none 1 0 0 S μ [.ref (S.1 k 0 0)] (ch_F none S (up μ k (k_dfl (μ k)))) := by
  refine ch_enter rfl rfl ?_
  intro X hl0 h hG hR hnm
  have h : ch_H X E RX3 cX3_setDefaults 1 := h
  show ch_W X E 1 S μ 0 0 0 [(0, .ref (S.1 k 0 0))] []
  refine ca_aload_nr h dX3_setDefaults_0 rfl ?_
  refine ca_iconst h dX3_setDefaults_1 ik_4 ?_
  refine pi_X3_51 h (hs.1 _ _ _ (by show _ ∧ _; exact ⟨by first | assumption | rfl | omega, by first | assumption | rfl | omega⟩)) dX3_setDefaults_2 ?_
  refine ca_aload_nr h dX3_setDefaults_5 rfl ?_
  refine ca_iconst h dX3_setDefaults_6 ik_2 ?_
  refine pi_X3_55 h (hs.1 _ _ _ (by show _ ∧ _; exact ⟨by first | assumption | rfl | omega, by first | assumption | rfl | omega⟩)) dX3_setDefaults_7 ?_
  refine ca_aload_nr h dX3_setDefaults_10 rfl ?_
  refine ca_iconst h dX3_setDefaults_11 ik_5 ?_
  refine pi_X3_58 h (hs.1 _ _ _ (by show _ ∧ _; exact ⟨by first | assumption | rfl | omega, by first | assumption | rfl | omega⟩)) dX3_setDefaults_12 ?_
  refine ca_aload_nr h dX3_setDefaults_15 rfl ?_
  refine ca_iconst h dX3_setDefaults_16 ik_4 ?_
  refine pi_X3_61 h (hs.1 _ _ _ (by show _ ∧ _; exact ⟨by first | assumption | rfl | omega, by first | assumption | rfl | omega⟩)) dX3_setDefaults_17 ?_
  refine ca_aload_nr h dX3_setDefaults_20 rfl ?_
  refine ca_iconst h dX3_setDefaults_21 ik_5 ?_
  refine pi_X3_64 h (hs.1 _ _ _ (by show _ ∧ _; exact ⟨by first | assumption | rfl | omega, by first | assumption | rfl | omega⟩)) dX3_setDefaults_22 ?_
  refine ca_aload_nr h dX3_setDefaults_25 rfl ?_
  refine ca_iconst h dX3_setDefaults_26 ik_3 ?_
  refine pi_X3_67 h (hs.1 _ _ _ (by show _ ∧ _; exact ⟨by first | assumption | rfl | omega, by first | assumption | rfl | omega⟩)) dX3_setDefaults_27 ?_
  refine ca_vreturn h hR dX3_setDefaults_30 ?_
  exact ⟨rfl, rfl, by simp only [ch_st_nw, ch_sa_na, up_s, up_up, k_dfl]⟩
