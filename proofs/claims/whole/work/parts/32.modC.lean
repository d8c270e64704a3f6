/-! THE REFERENCE: reports, averages, relations -/
theorem r_bad {n : ch_N} {w : Nat → Int32} (h : r_N n w) {m : Nat} (hm : m < k_mc n) (ht : n 3 m 4 = 1) : w (210 + 91 * m + 7) = n 3 m 7 := ((h.2.2.2.2.1 m hm).2.2.1 ht).1
theorem r_br {n : ch_N} {w : Nat → Int32} (h : r_N n w) {m c : Nat} (hm : m < k_mc n) (ht : n 3 m 4 = 1) (hc : c < 8) : w (210 + 91 * m + (11 + c)) = n 6 m c := (((h.2.2.2.2.1 m hm).2.2.1 ht).2 c hc).1
theorem r_ct {n : ch_N} {w : Nat → Int32} (h : r_N n w) {m c : Nat} (hm : m < k_mc n) (ht : n 3 m 4 = 1) (hc : c < 8) : w (210 + 91 * m + (19 + c)) = n 5 m c := (((h.2.2.2.2.1 m hm).2.2.1 ht).2 c hc).2.1
theorem r_lv {n : ch_N} {w : Nat → Int32} (h : r_N n w) {m c k : Nat} (hm : m < k_mc n) (ht : n 3 m 4 = 1) (hc : c < 8) (hk : k < Int32.toNatClampNeg (n 5 m c)) : w (210 + 91 * m + (27 + 8 * c + k)) = n 4 m (8 * c + k) := (((h.2.2.2.2.1 m hm).2.2.1 ht).2 c hc).2.2 k hk
theorem r_sv {n : ch_N} {w : Nat → Int32} (h : r_N n w) {m : Nat} (hm : m < k_mc n) (ht : n 3 m 4 = 1) : ∃ s, s < k_cc n ∧ n 3 m 5 = nI s := (h.2.2.2.2.1 m hm).2.2.2.2.2.1 ht
theorem k_rep_c {n : ch_N} {i c : Nat} (hc : c < 8) : k_rep n i (nI c) = n 5 i c := by
  unfold k_rep
  rw [if_neg (nI_pos (by omega)), if_pos (show nI c < 8 from nI_lt (b := 8) hc (by decide)), nI_clamp (by omega)]
theorem k_isb_c {n : ch_N} {i c : Nat} {t : Int32} (hc : c < 8) : k_isb n i (nI c) t = !decide (n 6 i c < t) := by
  unfold k_isb
  rw [if_neg (nI_pos (by omega)), if_pos (show nI c < 8 from nI_lt (b := 8) hc (by decide)), nI_clamp (by omega)]
theorem r_c58 {n : ch_N} {w : Nat → Int32} (h : r_N n w) {m c : Nat} (hm : m < 13) (hc : c < 8) : ¬ n 5 m c < 0 ∧ Int32.toNatClampNeg (n 5 m c) ≤ 8 := ⟨(h.2.2.2.2.2.2.2.2.2.2 m c hm hc).1, (h.2.2.2.2.2.2.2.2.2.2 m c hm hc).2.1⟩
theorem kq_spec (p : Nat → Bool) (N : Nat) : ∀ j, j ≤ N → (kq p N j = -1 ∧ ∀ i, N - j ≤ i → i < N → ¬ p i = true) ∨ ∃ r, N - j ≤ r ∧ r < N ∧ p r = true ∧ kq p N j = nI r ∧ ∀ i, N - j ≤ i → i < r → ¬ p i = true
  | 0, _ => Or.inl ⟨rfl, fun i h1 h2 => by omega⟩
  | j + 1, hj => by
    by_cases hp : p (N - (j + 1)) = true
    · exact Or.inr ⟨N - (j + 1), Nat.le_refl _, by omega, hp, by rw [kq, if_pos hp], fun i h1 h2 => by omega⟩
    · have e : kq p N (j + 1) = kq p N j := by rw [kq, if_neg hp]
      rcases kq_spec p N j (by omega) with ⟨h1, h2⟩ | ⟨r, h1, h2, h3, h4, h5⟩
      · refine Or.inl ⟨by rw [e, h1], fun i g1 g2 => ?_⟩
        by_cases z : i = N - (j + 1)
        · rw [z]; exact hp
        · exact h2 i (by omega) g2
      · refine Or.inr ⟨r, by omega, h2, h3, by rw [e, h4], fun i g1 g2 => ?_⟩
        by_cases z : i = N - (j + 1)
        · rw [z]; exact hp
        · exact h5 i (by omega) g2
/-- a relation of the reference's list: none, or the one of these two cells -/
theorem r_find {n : ch_N} {w : Nat → Int32} (h : r_R n w) {a b : Nat} (ha : a < 8) (hb : b < 8) (hc8 : k_cc n ≤ 8) : (r_ro w (nI a) (nI b) = -1 ∧ n 2 (8 * a + b) 0 = 0) ∨
    ∃ r, r < Int32.toNatClampNeg (w 1) ∧ r < 24 ∧ r_ro w (nI a) (nI b) = nI r ∧ ¬ n 2 (8 * a + b) 0 = 0 ∧ n 2 (8 * a + b) 0 = 1 ∧ w (90 + 5 * r) = nI a ∧ w (90 + 5 * r + 1) = nI b ∧ w (90 + 5 * r + 2) = n 2 (8 * a + b) 1 ∧ w (90 + 5 * r + 3) = n 2 (8 * a + b) 2 ∧ w (90 + 5 * r + 4) = n 2 (8 * a + b) 3 := by
  obtain ⟨⟨h0, h24⟩, h1, h2, h3, h4⟩ := h
  rcases kq_spec (fun r => decide (w (90 + 5 * r) = nI a ∧ w (90 + 5 * r + 1) = nI b)) (Int32.toNatClampNeg (w 1)) (Int32.toNatClampNeg (w 1)) (Nat.le_refl _) with ⟨e, g⟩ | ⟨r, -, hr, hp, e, -⟩
  · refine Or.inl ⟨e, Classical.byContradiction fun hz => ?_⟩
    obtain ⟨r, hr, ea, eb⟩ := h3 a b ha hb hz
    exact g r (by omega) hr (decide_eq_true ⟨ea, eb⟩)
  · have hp := of_decide_eq_true hp
    obtain ⟨a', b', ha', hb', ea, eb, e0, e1, e2, e3⟩ := h1 r hr
    have za : a' = a := (nI_eq (by omega) (by omega)).mp (ea.symm.trans hp.1)
    have zb : b' = b := (nI_eq (by omega) (by omega)).mp (eb.symm.trans hp.2)
    subst za zb
    exact Or.inr ⟨r, hr, by omega, e, by rw [e0]; decide, e0, ea, eb, e1, e2, e3⟩
theorem r_rx {a b : Nat} (ha : a < 8) (hb : b < 8) : k_rx (nI a) (nI b) = 8 * a + b := k_rx_in ha hb
theorem r_24 {n : ch_N} {w : Nat → Int32} (h : r_N n w) : Int32.toNatClampNeg (w 1) ≤ 24 := h.2.2.2.1.1.2
theorem r_nb {n : ch_N} {w : Nat → Int32} (h : r_N n w) {a b : Nat} (ha : a < 8) (hb : b < 8) : r_ro w (nI a) (nI b) = -1 ↔ n 2 (8 * a + b) 0 = 0 := by
  rcases r_find h.2.2.2.1 ha hb h.2.2.2.2.2.2.1 with ⟨e1, e2⟩ | ⟨r, -, hr, e1, e2, -⟩
  · exact ⟨fun _ => e2, fun _ => e1⟩
  · exact ⟨fun z => absurd (e1.symm.trans z) (nI_nm1 (by omega)), fun z => absurd z e2⟩
set_option maxHeartbeats 100000 in
theorem c_X12_reportsOf {l : Launch} {E : ch_E} {S : ch_S} {μ : ch_M} (hs : ch_Std E S) {m c : Nat} (hm : m < 12) (hc : c < 8) : ch_C E l yX12_reportsOf cX12_reportsOf 3 (some FieldType.int) 2 0 0 S μ [.ref (S.1 16 22 0), .int (nI m), .int (nI c)] (ch_F (some (.int (μ 16 23 0 (210 + 91 * m + (19 + c))))) S (μ)) := by
  refine ch_enter rfl rfl ?_
  intro X hl0 h hG hR hnm
  have h : ch_H X E RX12 cX12_reportsOf 3 := h
  show ch_W X E 3 S μ 0 0 0 [(0, .ref (S.1 16 22 0)), (1, .int (nI m)), (2, .int (nI c))] []
  refine ca_aload_nr h dX12_reportsOf_0 rfl ?_
  refine ca_iload_n h dX12_reportsOf_1 rfl ?_
  refine ca_bipush h dX12_reportsOf_2 bk_19 ?_
  refine ca_iload_n h dX12_reportsOf_4 rfl ?_
  refine ca_iadd h dX12_reportsOf_5 ?_
  refine ca_top (show _ = nI (19 + c) by rw [show (19 : Int32) = nI 19 from rfl, nI_add]) ?_
  refine ca_vi h hG ml_X12_77 (c_X12_of hs hm (by omega)) (ci := 12) rfl rfl rfl (hs.1 _ _ _ ⟨rfl, rfl⟩) rfl rfl rfl rfl ⟨Nat.le_refl _, Nat.le_refl _⟩ rfl dX12_reportsOf_6 ?_
  refine ca_ireturn h hR rfl dX12_reportsOf_9 ?_
  exact ⟨rfl, rfl, rfl⟩
set_option maxHeartbeats 100000 in
theorem c_X12_isBarredNow {l : Launch} {E : ch_E} {S : ch_S} {μ : ch_M} (hs : ch_Std E S) {n : ch_N} (hN : r_N n (μ 16 23 0)) {m c : Nat} (hm : m < k_mc n) (ht : n 3 m 4 = 1) (hc : c < 8) : ch_C E l yX12_isBarredNow cX12_isBarredNow 3 (some FieldType.boolean) 2 0 0 S μ [.ref (S.1 16 22 0), .int (nI m), .int (nI c)] (ch_F (some (.int (bI (k_isb n m (nI c) (n 0 0 3))))) S (μ)) := by
  refine ch_enter rfl rfl ?_
  intro X hl0 h hG hR hnm
  have h : ch_H X E RX12 cX12_isBarredNow 3 := h
  have hm12 := r_m12 hN hm
  show ch_W X E 3 S μ 0 0 0 [(0, .ref (S.1 16 22 0)), (1, .int (nI m)), (2, .int (nI c))] []
  refine ca_aload_nr h dX12_isBarredNow_0 rfl ?_
  refine gs_X12_9 h hs ⟨rfl, rfl⟩ dX12_isBarredNow_1 ?_
  refine ca_iconst h dX12_isBarredNow_4 ik_3 ?_
  refine ca_iald h rfl (hs.1 _ _ _ ⟨rfl, rfl⟩) (vp_in_nI (n := 3) (N := 1302) (by decide) (by decide)) dX12_isBarredNow_5 ?_
  refine ca_aload_nr h dX12_isBarredNow_6 rfl ?_
  refine ca_iload_n h dX12_isBarredNow_7 rfl ?_
  refine ca_bipush h dX12_isBarredNow_8 bk_11 ?_
  refine ca_iload_n h dX12_isBarredNow_10 rfl ?_
  refine ca_iadd h dX12_isBarredNow_11 ?_
  refine ca_top (show _ = nI (11 + c) by rw [show (11 : Int32) = nI 11 from rfl, nI_add]) ?_
  refine ca_vi h hG ml_X12_77 (c_X12_of hs hm12 (by omega)) (ci := 12) rfl rfl rfl (hs.1 _ _ _ ⟨rfl, rfl⟩) rfl rfl rfl rfl ⟨Nat.le_refl _, Nat.le_refl _⟩ rfl dX12_isBarredNow_12 ?_
  refine ca_icmp_gt (tgt := 22) h dX12_isBarredNow_15 (by decide) (fun c_15 => ?_) (fun c_15 => ?_)
  ·
    refine ca_iconst h dX12_isBarredNow_22 ik_0 ?_
    refine ca_ireturn h hR rfl dX12_isBarredNow_23 ?_
    have c9 := c_15
    rw [r_br hN hm ht hc, show μ 16 23 0 (Int32.toNatClampNeg 3) = n 0 0 3 from hN.1 3 (by decide)] at c9
    exact ⟨by rw [k_isb_c hc]; simp [bI, c9], rfl, rfl⟩
  ·
    refine ca_iconst h dX12_isBarredNow_18 ik_1 ?_
    refine ca_goto (tgt := 23) h dX12_isBarredNow_19 (by decide) ?_
    refine ca_ireturn h hR rfl dX12_isBarredNow_23 ?_
    have c9 := c_15
    rw [r_br hN hm ht hc, show μ 16 23 0 (Int32.toNatClampNeg 3) = n 0 0 3 from hN.1 3 (by decide)] at c9
    exact ⟨by rw [k_isb_c hc]; simp [bI, c9], rfl, rfl⟩
set_option maxHeartbeats 100000 in
theorem c_X12_averageOf {l : Launch} {E : ch_E} {S : ch_S} {μ : ch_M} (hs : ch_Std E S) {n : ch_N} (hN : r_N n (μ 16 23 0)) {m c : Nat} (hm : m < k_mc n) (ht : n 3 m 4 = 1) (hc : c < 8) (hp : 0 < n 5 m c) : ch_C E l yX12_averageOf cX12_averageOf 6 (some FieldType.int) 3 0 0 S μ [.ref (S.1 16 22 0), .int (nI m), .int (nI c)] (ch_F (some (.int (k_avg n m (nI c)))) S (μ)) := by
  refine ch_enter rfl rfl ?_
  intro X hl0 h hG hR hnm
  have h : ch_H X E RX12 cX12_averageOf 6 := h
  have hm12 := r_m12 hN hm
  have h58 := r_c58 hN (show m < 13 by omega) hc
  show ch_W X E 6 S μ 0 0 0 [(0, .ref (S.1 16 22 0)), (1, .int (nI m)), (2, .int (nI c))] []
  refine ca_iconst h dX12_averageOf_0 ik_0 ?_
  refine ca_istore_n h dX12_averageOf_1 rfl ?_
  refine ca_aload_nr h dX12_averageOf_2 rfl ?_
  refine ca_iload_n h dX12_averageOf_3 rfl ?_
  refine ca_iload_n h dX12_averageOf_4 rfl ?_
  refine ca_vi h hG ml_X12_154 (c_X12_reportsOf hs (by omega) (by omega)) (ci := 12) rfl rfl rfl (hs.1 _ _ _ ⟨rfl, rfl⟩) rfl rfl rfl rfl ⟨Nat.le_refl _, Nat.le_refl _⟩ rfl dX12_averageOf_5 ?_
  rw [r_ct hN hm ht hc]
  refine ca_istore h dX12_averageOf_8 rfl ?_
  refine ca_iconst h dX12_averageOf_10 ik_0 ?_
  refine ca_istore h dX12_averageOf_11 rfl ?_
  have loop_13 : ∀ (jj j : Nat), j + jj = Int32.toNatClampNeg (n 5 m c) → ∀ (x3 : Int32) (e3 : x3 = k_sum n m (8 * c) j) (x5 : Int32) (e5 : x5 = nI j), ch_W X E 6 S μ 0 0 13 [(0, .ref (S.1 16 22 0)), (1, .int (nI m)), (2, .int (nI c)), (3, .int x3), (4, .int (n 5 m c)), (5, .int x5)] [] := by
    intro jj
    induction jj with
    | zero =>
      intro j hn x3 e3 x5 e5
      have hn : j = Int32.toNatClampNeg (n 5 m c) := by omega
      subst e3 e5
      refine ca_iload h dX12_averageOf_13 rfl ?_
      refine ca_iload h dX12_averageOf_15 rfl ?_
      refine ca_icmp_ge (tgt := 44) h dX12_averageOf_17 (by decide) (fun c_17 => ?_) (fun c_17 => ?_)
      ·
        refine ca_iload_n h dX12_averageOf_44 rfl ?_
        refine ca_iload h dX12_averageOf_45 rfl ?_
        refine ca_idiv h dX12_averageOf_47 (fun z => by rw [z] at hp; exact absurd hp (by decide)) ?_
        refine ca_ireturn h hR rfl dX12_averageOf_48 ?_
        exact ⟨by unfold k_avg; rw [k_rep_c hc, if_pos hp, nI_clamp (by omega), hn], rfl, rfl⟩
      · exact absurd c_17 (lt_no rfl hn)
    | succ jj ih_13 =>
      intro j hn x3 e3 x5 e5
      have hn1 : j < Int32.toNatClampNeg (n 5 m c) := by omega
      subst e3 e5
      refine ca_iload h dX12_averageOf_13 rfl ?_
      refine ca_iload h dX12_averageOf_15 rfl ?_
      refine ca_icmp_ge (tgt := 44) h dX12_averageOf_17 (by decide) (fun c_17 => ?_) (fun c_17 => ?_)
      · exact absurd (lt_yes rfl hn1) c_17
      ·
        refine ca_iload_n h dX12_averageOf_20 rfl ?_
        refine ca_aload_nr h dX12_averageOf_21 rfl ?_
        refine ca_iload_n h dX12_averageOf_22 rfl ?_
        refine ca_bipush h dX12_averageOf_23 bk_27 ?_
        refine ca_bipush h dX12_averageOf_25 bk_8 ?_
        refine ca_iload_n h dX12_averageOf_27 rfl ?_
        refine ca_imul h dX12_averageOf_28 ?_
        refine ca_iadd h dX12_averageOf_29 ?_
        refine ca_iload h dX12_averageOf_30 rfl ?_
        refine ca_iadd h dX12_averageOf_32 ?_
        refine ca_top (show _ = nI (27 + 8 * c + j) by rw [show (27 : Int32) = nI 27 from rfl, show (8 : Int32) = nI 8 from rfl, pk_mul, nI_add, nI_add]) ?_
        refine ca_vi h hG ml_X12_77 (c_X12_of hs hm12 (by omega)) (ci := 12) rfl rfl rfl (hs.1 _ _ _ ⟨rfl, rfl⟩) rfl rfl rfl rfl ⟨Nat.le_refl _, Nat.le_refl _⟩ rfl dX12_averageOf_33 ?_
        refine ca_iadd h dX12_averageOf_36 ?_
        refine ca_istore_n h dX12_averageOf_37 rfl ?_
        refine ca_iinc h dX12_averageOf_38 rfl ik_1 rfl ?_
        refine ca_goto (tgt := 13) h dX12_averageOf_41 (by decide) ?_
        refine ca_pick [2, 3, 4, 1, 5, 0] rfl ?_
        exact ih_13 (j + 1) (by omega) _ (by rw [r_lv hN hm ht hc hn1]; rfl) _ (nI_1 j)
  refine ca_pick [3, 4, 5, 2, 1, 0] rfl ?_
  exact loop_13 _ 0 (Nat.zero_add _) _ rfl _ rfl
set_option maxHeartbeats 100000 in
theorem c_X12_isEmergency {l : Launch} {E : ch_E} {S : ch_S} {μ : ch_M} (hs : ch_Std E S) {n : ch_N} (hN : r_N n (μ 16 23 0)) {m s : Nat} (hm : m < k_mc n) (ht : n 3 m 4 = 1) (hsc : s < k_cc n) (h5 : n 3 m 5 = nI s) (hp : 0 < n 5 m s) : ch_C E l yX12_isEmergency cX12_isEmergency 3 (some FieldType.boolean) 4 0 0 S μ [.ref (S.1 16 22 0), .int (nI m)] (ch_F (some (.int (k_em n m))) S (μ)) := by
  refine ch_enter rfl rfl ?_
  intro X hl0 h hG hR hnm
  have h : ch_H X E RX12 cX12_isEmergency 3 := h
  have hm12 := r_m12 hN hm
  have hs8 := r_c8 hN hsc
  show ch_W X E 3 S μ 0 0 0 [(0, .ref (S.1 16 22 0)), (1, .int (nI m))] []
  refine ca_aload_nr h dX12_isEmergency_0 rfl ?_
  refine ca_iload_n h dX12_isEmergency_1 rfl ?_
  refine ca_iconst h dX12_isEmergency_2 ik_5 ?_
  refine ca_vi h hG ml_X12_77 (c_X12_of hs (f := 5) (by omega) (by decide)) (ci := 12) rfl rfl rfl (hs.1 _ _ _ ⟨rfl, rfl⟩) rfl rfl rfl rfl ⟨Nat.le_refl _, Nat.le_refl _⟩ rfl dX12_isEmergency_3 ?_
  rw [r_f hN hm (f := 5) (by decide), h5]
  refine ca_istore_n h dX12_isEmergency_6 rfl ?_
  refine ca_aload_nr h dX12_isEmergency_7 rfl ?_
  refine ca_iload_n h dX12_isEmergency_8 rfl ?_
  refine ca_iload_n h dX12_isEmergency_9 rfl ?_
  refine ca_vi h hG ml_X12_204 (c_X12_averageOf hs hN (by assumption) (by assumption) (by omega) (by assumption)) (ci := 12) rfl rfl rfl (hs.1 _ _ _ ⟨rfl, rfl⟩) rfl rfl rfl rfl ⟨Nat.le_refl _, Nat.le_refl _⟩ rfl dX12_isEmergency_10 ?_
  refine ca_aload_nr h dX12_isEmergency_13 rfl ?_
  refine ca_iload_n h dX12_isEmergency_14 rfl ?_
  refine ca_bipush h dX12_isEmergency_15 bk_7 ?_
  refine ca_vi h hG ml_X12_85 (c_X12_ofCell hs (f := 7) (by omega) (by decide)) (ci := 12) rfl rfl rfl (hs.1 _ _ _ ⟨rfl, rfl⟩) rfl rfl rfl rfl ⟨Nat.le_refl _, Nat.le_refl _⟩ rfl dX12_isEmergency_17 ?_
  refine ca_icmp_ge (tgt := 27) h dX12_isEmergency_20 (by decide) (fun c_20 => ?_) (fun c_20 => ?_)
  ·
    refine ca_iconst h dX12_isEmergency_27 ik_0 ?_
    refine ca_ireturn h hR rfl dX12_isEmergency_28 ?_
    have c9 := c_20
    rw [r_cf hN hsc (f := 7) (by decide)] at c9
    exact ⟨by unfold k_em; rw [h5, k_cel hs8]; simp [bI, c9], rfl, rfl⟩
  ·
    refine ca_iconst h dX12_isEmergency_23 ik_1 ?_
    refine ca_goto (tgt := 28) h dX12_isEmergency_24 (by decide) ?_
    refine ca_ireturn h hR rfl dX12_isEmergency_28 ?_
    have c9 := c_20
    rw [r_cf hN hsc (f := 7) (by decide)] at c9
    exact ⟨by unfold k_em; rw [h5, k_cel hs8]; simp [bI, c9], rfl, rfl⟩
theorem k_rc_inv (n : ch_N) (s x y : Int32) : ∀ N, ((k_rc n s x y N).1 = -1 ∧ (k_rc n s x y N).2 = -1) ∨ ∃ b, b < N ∧ (k_rc n s x y N).1 = nI b ∧ (k_rc n s x y N).2 = k_lv n b x y
  | 0 => Or.inl ⟨rfl, rfl⟩
  | N + 1 => by
    have ih := k_rc_inv n s x y N
    have e : k_rc n s x y (N + 1) = if ¬ n 2 (k_rx s (nI N)) 0 = 0 ∧ (k_rc n s x y N).2 < k_lv n N x y ∧ k_use n (nI N) x y = true ∧ k_free n (nI N) = true then (nI N, k_lv n N x y) else k_rc n s x y N := rfl
    by_cases h : ¬ n 2 (k_rx s (nI N)) 0 = 0 ∧ (k_rc n s x y N).2 < k_lv n N x y ∧ k_use n (nI N) x y = true ∧ k_free n (nI N) = true
    · rw [if_pos h] at e
      exact Or.inr ⟨N, Nat.lt_succ_self N, by rw [e], by rw [e]⟩
    · rw [if_neg h] at e
      rcases ih with ⟨h1, h2⟩ | ⟨b, hb, h1, h2⟩
      · exact Or.inl ⟨by rw [e, h1], by rw [e, h2]⟩
      · exact Or.inr ⟨b, Nat.lt_succ_of_lt hb, by rw [e, h1], by rw [e, h2]⟩
set_option maxHeartbeats 100000 in
theorem c_X12_retryCell {l : Launch} {E : ch_E} {S : ch_S} {μ : ch_M} (hs : ch_Std E S) {n : ch_N} (hN : r_N n (μ 16 23 0)) {m s : Nat} (hm : m < k_mc n) (hsc : s < k_cc n) : ch_C E l yX12_retryCell cX12_retryCell 6 (some FieldType.int) 5 0 0 S μ [.ref (S.1 16 22 0), .int (nI m), .int (nI s)] (ch_F (some (.int ((k_rc n (nI s) (n 3 m 0) (n 3 m 1) (k_cc n)).1))) S (μ)) := by
  refine ch_enter rfl rfl ?_
  intro X hl0 h hG hR hnm
  have h : ch_H X E RX12 cX12_retryCell 6 := h
  have hcc := hN.2.2.2.2.2.2.1
  have hs8 := r_c8 hN hsc
  show ch_W X E 6 S μ 0 0 0 [(0, .ref (S.1 16 22 0)), (1, .int (nI m)), (2, .int (nI s))] []
  refine ca_iconst h dX12_retryCell_0 ik_m1 ?_
  refine ca_istore_n h dX12_retryCell_1 rfl ?_
  refine ca_iconst h dX12_retryCell_2 ik_0 ?_
  refine ca_istore h dX12_retryCell_3 rfl ?_
  have loop_5 : ∀ (jj j : Nat), j + jj = k_cc n → ∀ (x3 : Int32) (e3 : x3 = (k_rc n (nI s) (n 3 m 0) (n 3 m 1) j).1) (x4 : Int32) (e4 : x4 = nI j), ch_W X E 6 S μ 0 0 5 [(0, .ref (S.1 16 22 0)), (1, .int (nI m)), (2, .int (nI s)), (3, .int x3), (4, .int x4)] [] := by
    intro jj
    induction jj with
    | zero =>
      intro j hn x3 e3 x4 e4
      have hn : j = k_cc n := by omega
      subst e3 e4
      refine ca_iload h dX12_retryCell_5 rfl ?_
      refine ca_aload_nr h dX12_retryCell_7 rfl ?_
      refine gs_X12_9 h hs ⟨rfl, rfl⟩ dX12_retryCell_8 ?_
      refine ca_iconst h dX12_retryCell_11 ik_0 ?_
      refine ca_iald h rfl (hs.1 _ _ _ ⟨rfl, rfl⟩) (vp_in_nI (n := 0) (N := 1302) (by decide) (by decide)) dX12_retryCell_12 ?_
      refine ca_icmp_ge (tgt := 95) h dX12_retryCell_13 (by decide) (fun c_13 => ?_) (fun c_13 => ?_)
      ·
        refine ca_iload_n h dX12_retryCell_95 rfl ?_
        refine ca_ireturn h hR rfl dX12_retryCell_96 ?_
        exact ⟨by rw [hn], rfl, rfl⟩
      · exact absurd c_13 (lt_no (show k_cc n = Int32.toNatClampNeg (μ 16 23 0 (Int32.toNatClampNeg 0)) from r_cc hN) hn)
    | succ jj ih_5 =>
      intro j hn x3 e3 x4 e4
      have hn1 : j < k_cc n := by omega
      subst e3 e4
      have hld := k_rc_inv n (nI s) (n 3 m 0) (n 3 m 1) j
      refine ca_iload h dX12_retryCell_5 rfl ?_
      refine ca_aload_nr h dX12_retryCell_7 rfl ?_
      refine gs_X12_9 h hs ⟨rfl, rfl⟩ dX12_retryCell_8 ?_
      refine ca_iconst h dX12_retryCell_11 ik_0 ?_
      refine ca_iald h rfl (hs.1 _ _ _ ⟨rfl, rfl⟩) (vp_in_nI (n := 0) (N := 1302) (by decide) (by decide)) dX12_retryCell_12 ?_
      refine ca_icmp_ge (tgt := 95) h dX12_retryCell_13 (by decide) (fun c_13 => ?_) (fun c_13 => ?_)
      · exact absurd (lt_yes (show k_cc n = Int32.toNatClampNeg (μ 16 23 0 (Int32.toNatClampNeg 0)) from r_cc hN) hn1) c_13
      ·
        refine ca_aload_nr h dX12_retryCell_16 rfl ?_
        refine ca_iload_n h dX12_retryCell_17 rfl ?_
        refine ca_iload h dX12_retryCell_18 rfl ?_
        refine ca_vi h hG ml_X12_121 (c_X12_isNeighbour hs (r_24 hN)) (ci := 12) rfl rfl rfl (hs.1 _ _ _ ⟨rfl, rfl⟩) rfl rfl rfl rfl ⟨Nat.le_refl _, Nat.le_refl _⟩ rfl dX12_retryCell_20 ?_
        refine ca_if_eq (tgt := 57) h dX12_retryCell_23 (by decide) (fun c_23 => ?_) (fun c_23 => ?_)
        ·
          refine ca_iconst h dX12_retryCell_57 ik_0 ?_
          refine ca_istore h dX12_retryCell_58 rfl ?_
          refine ca_iload h dX12_retryCell_60 rfl ?_
          refine ca_if_eq (tgt := 89) h dX12_retryCell_62 (by decide) (fun c_62 => ?_) (fun c_62 => ?_)
          ·
            refine ca_iinc h dX12_retryCell_89 rfl ik_1 rfl ?_
            refine ca_goto (tgt := 5) h dX12_retryCell_92 (by decide) ?_
            refine ca_pick [2, 3, 4, 5, 0] rfl ?_
            have e9 : k_rc n (nI s) (n 3 m 0) (n 3 m 1) (j + 1) = if ¬ n 2 (k_rx (nI s) (nI j)) 0 = 0 ∧ (k_rc n (nI s) (n 3 m 0) (n 3 m 1) j).2 < k_lv n j (n 3 m 0) (n 3 m 1) ∧ k_use n (nI j) (n 3 m 0) (n 3 m 1) = true ∧ k_free n (nI j) = true then (nI j, k_lv n j (n 3 m 0) (n 3 m 1)) else k_rc n (nI s) (n 3 m 0) (n 3 m 1) j := rfl
            have hj8 : j < 8 := by omega
            have c9 := of_decide_eq_false (bI_0.mp c_23)
            exact ih_5 (j + 1) (by omega) _ (by rw [e9, if_neg (fun z => c9 (fun z1 => z.1 (by rw [r_rx hs8 hj8]; exact (r_nb hN hs8 hj8).mp z1)))]) _ (nI_1 j)
          · exact absurd rfl c_62
        ·
          refine ca_aload_nr h dX12_retryCell_26 rfl ?_
          refine ca_iload h dX12_retryCell_27 rfl ?_
          refine ca_vi h hG ml_X12_167 (c_X12_hasFreeChannel hs hN (by first | assumption | omega)) (ci := 12) rfl rfl rfl (hs.1 _ _ _ ⟨rfl, rfl⟩) rfl rfl rfl rfl ⟨Nat.le_refl _, Nat.le_refl _⟩ rfl dX12_retryCell_29 ?_
          refine ca_if_eq (tgt := 57) h dX12_retryCell_32 (by decide) (fun c_32 => ?_) (fun c_32 => ?_)
          ·
            refine ca_iconst h dX12_retryCell_57 ik_0 ?_
            refine ca_istore h dX12_retryCell_58 rfl ?_
            refine ca_iload h dX12_retryCell_60 rfl ?_
            refine ca_if_eq (tgt := 89) h dX12_retryCell_62 (by decide) (fun c_62 => ?_) (fun c_62 => ?_)
            ·
              refine ca_iinc h dX12_retryCell_89 rfl ik_1 rfl ?_
              refine ca_goto (tgt := 5) h dX12_retryCell_92 (by decide) ?_
              refine ca_pick [2, 3, 4, 5, 0] rfl ?_
              have e9 : k_rc n (nI s) (n 3 m 0) (n 3 m 1) (j + 1) = if ¬ n 2 (k_rx (nI s) (nI j)) 0 = 0 ∧ (k_rc n (nI s) (n 3 m 0) (n 3 m 1) j).2 < k_lv n j (n 3 m 0) (n 3 m 1) ∧ k_use n (nI j) (n 3 m 0) (n 3 m 1) = true ∧ k_free n (nI j) = true then (nI j, k_lv n j (n 3 m 0) (n 3 m 1)) else k_rc n (nI s) (n 3 m 0) (n 3 m 1) j := rfl
              have hj8 : j < 8 := by omega
              exact ih_5 (j + 1) (by omega) _ (by rw [e9, if_neg (fun z => bI_n0.mpr z.2.2.2 c_32)]) _ (nI_1 j)
            · exact absurd rfl c_62
          ·
            refine ca_aload_nr h dX12_retryCell_35 rfl ?_
            refine ca_iload h dX12_retryCell_36 rfl ?_
            refine ca_iload_n h dX12_retryCell_38 rfl ?_
            refine ca_vi h hG ml_X12_157 (c_X12_levelFor hs hN (by first | assumption | omega) (by first | assumption | omega)) (ci := 12) rfl rfl rfl (hs.1 _ _ _ ⟨rfl, rfl⟩) rfl rfl rfl rfl ⟨Nat.le_refl _, Nat.le_refl _⟩ rfl dX12_retryCell_39 ?_
            refine ca_aload_nr h dX12_retryCell_42 rfl ?_
            refine ca_iload h dX12_retryCell_43 rfl ?_
            refine ca_bipush h dX12_retryCell_45 bk_6 ?_
            refine ca_vi h hG ml_X12_85 (c_X12_ofCell hs (f := 6) (by omega) (by decide)) (ci := 12) rfl rfl rfl (hs.1 _ _ _ ⟨rfl, rfl⟩) rfl rfl rfl rfl ⟨Nat.le_refl _, Nat.le_refl _⟩ rfl dX12_retryCell_47 ?_
            refine ca_icmp_lt (tgt := 57) h dX12_retryCell_50 (by decide) (fun c_50 => ?_) (fun c_50 => ?_)
            ·
              refine ca_iconst h dX12_retryCell_57 ik_0 ?_
              refine ca_istore h dX12_retryCell_58 rfl ?_
              refine ca_iload h dX12_retryCell_60 rfl ?_
              refine ca_if_eq (tgt := 89) h dX12_retryCell_62 (by decide) (fun c_62 => ?_) (fun c_62 => ?_)
              ·
                refine ca_iinc h dX12_retryCell_89 rfl ik_1 rfl ?_
                refine ca_goto (tgt := 5) h dX12_retryCell_92 (by decide) ?_
                refine ca_pick [2, 3, 4, 5, 0] rfl ?_
                have e9 : k_rc n (nI s) (n 3 m 0) (n 3 m 1) (j + 1) = if ¬ n 2 (k_rx (nI s) (nI j)) 0 = 0 ∧ (k_rc n (nI s) (n 3 m 0) (n 3 m 1) j).2 < k_lv n j (n 3 m 0) (n 3 m 1) ∧ k_use n (nI j) (n 3 m 0) (n 3 m 1) = true ∧ k_free n (nI j) = true then (nI j, k_lv n j (n 3 m 0) (n 3 m 1)) else k_rc n (nI s) (n 3 m 0) (n 3 m 1) j := rfl
                have hj8 : j < 8 := by omega
                have c9 := c_50
                rw [r_cf hN hn1 (f := 6) (by decide)] at c9
                exact ih_5 (j + 1) (by omega) _ (by rw [e9, if_neg (fun z => by have z3 := z.2.2.1; unfold k_use at z3; rw [k_cel hj8, decide_eq_true c9] at z3; exact absurd z3 (by decide))]) _ (nI_1 j)
              · exact absurd rfl c_62
            ·
              refine ca_iconst h dX12_retryCell_53 ik_1 ?_
              refine ca_goto (tgt := 58) h dX12_retryCell_54 (by decide) ?_
              refine ca_istore h dX12_retryCell_58 rfl ?_
              refine ca_iload h dX12_retryCell_60 rfl ?_
              refine ca_if_eq (tgt := 89) h dX12_retryCell_62 (by decide) (fun c_62 => ?_) (fun c_62 => ?_)
              · exact absurd c_62 (by decide)
              ·
                refine ca_iload_n h dX12_retryCell_65 rfl ?_
                refine ca_iconst h dX12_retryCell_66 ik_m1 ?_
                refine ca_icmp_eq (tgt := 86) h dX12_retryCell_67 (by decide) (fun c_67 => ?_) (fun c_67 => ?_)
                ·
                  refine ca_iload h dX12_retryCell_86 rfl ?_
                  refine ca_istore_n h dX12_retryCell_88 rfl ?_
                  refine ca_iinc h dX12_retryCell_89 rfl ik_1 rfl ?_
                  refine ca_goto (tgt := 5) h dX12_retryCell_92 (by decide) ?_
                  refine ca_pick [3, 4, 5, 1, 0] rfl ?_
                  have e9 : k_rc n (nI s) (n 3 m 0) (n 3 m 1) (j + 1) = if ¬ n 2 (k_rx (nI s) (nI j)) 0 = 0 ∧ (k_rc n (nI s) (n 3 m 0) (n 3 m 1) j).2 < k_lv n j (n 3 m 0) (n 3 m 1) ∧ k_use n (nI j) (n 3 m 0) (n 3 m 1) = true ∧ k_free n (nI j) = true then (nI j, k_lv n j (n 3 m 0) (n 3 m 1)) else k_rc n (nI s) (n 3 m 0) (n 3 m 1) j := rfl
                  have hj8 : j < 8 := by omega
                  have c8 := of_decide_eq_true (bI_n0.mp c_23)
                  have g1 : ¬ n 2 (k_rx (nI s) (nI j)) 0 = 0 := by rw [r_rx hs8 hj8]; exact fun z => c8 ((r_nb hN hs8 hj8).mpr z)
                  have g4 := bI_n0.mp c_32
                  have c9 := c_50
                  rw [r_cf hN hn1 (f := 6) (by decide)] at c9
                  have g3 : k_use n (nI j) (n 3 m 0) (n 3 m 1) = true := by unfold k_use; rw [k_cel hj8, decide_eq_false c9]; rfl
                  have g2 : (k_rc n (nI s) (n 3 m 0) (n 3 m 1) j).2 = -1 := by rcases hld with ⟨h1, h2⟩ | ⟨b, hb, h1, h2⟩; exact h2; exact absurd (h1.symm.trans c_67) (nI_nm1 (by omega))
                  exact ih_5 (j + 1) (by omega) _ (by rw [e9, if_pos ⟨g1, by rw [g2]; exact k_lv_nn _ _ _ _, g3, g4⟩]) _ (nI_1 j)
                ·
                  rcases hld with ⟨h1, h2⟩ | ⟨b, hb, h1, h2⟩
                  · exact absurd h1 c_67
                  rw [h1]
                  have hbc : b < k_cc n := by omega
                  refine ca_aload_nr h dX12_retryCell_70 rfl ?_
                  refine ca_iload h dX12_retryCell_71 rfl ?_
                  refine ca_iload_n h dX12_retryCell_73 rfl ?_
                  refine ca_vi h hG ml_X12_157 (c_X12_levelFor hs hN (by first | assumption | omega) (by first | assumption | omega)) (ci := 12) rfl rfl rfl (hs.1 _ _ _ ⟨rfl, rfl⟩) rfl rfl rfl rfl ⟨Nat.le_refl _, Nat.le_refl _⟩ rfl dX12_retryCell_74 ?_
                  refine ca_aload_nr h dX12_retryCell_77 rfl ?_
                  refine ca_iload_n h dX12_retryCell_78 rfl ?_
                  refine ca_iload_n h dX12_retryCell_79 rfl ?_
                  refine ca_vi h hG ml_X12_157 (c_X12_levelFor hs hN (by first | assumption | omega) (by first | assumption | omega)) (ci := 12) rfl rfl rfl (hs.1 _ _ _ ⟨rfl, rfl⟩) rfl rfl rfl rfl ⟨Nat.le_refl _, Nat.le_refl _⟩ rfl dX12_retryCell_80 ?_
                  refine ca_icmp_le (tgt := 89) h dX12_retryCell_83 (by decide) (fun c_83 => ?_) (fun c_83 => ?_)
                  ·
                    refine ca_iinc h dX12_retryCell_89 rfl ik_1 rfl ?_
                    refine ca_goto (tgt := 5) h dX12_retryCell_92 (by decide) ?_
                    refine ca_pick [2, 3, 4, 5, 0] rfl ?_
                    have e9 : k_rc n (nI s) (n 3 m 0) (n 3 m 1) (j + 1) = if ¬ n 2 (k_rx (nI s) (nI j)) 0 = 0 ∧ (k_rc n (nI s) (n 3 m 0) (n 3 m 1) j).2 < k_lv n j (n 3 m 0) (n 3 m 1) ∧ k_use n (nI j) (n 3 m 0) (n 3 m 1) = true ∧ k_free n (nI j) = true then (nI j, k_lv n j (n 3 m 0) (n 3 m 1)) else k_rc n (nI s) (n 3 m 0) (n 3 m 1) j := rfl
                    have hj8 : j < 8 := by omega
                    exact ih_5 (j + 1) (by omega) _ (by rw [e9, if_neg (fun z => c_83 (by rw [← h2]; exact z.2.1)), h1]) _ (nI_1 j)
                  ·
                    refine ca_iload h dX12_retryCell_86 rfl ?_
                    refine ca_istore_n h dX12_retryCell_88 rfl ?_
                    refine ca_iinc h dX12_retryCell_89 rfl ik_1 rfl ?_
                    refine ca_goto (tgt := 5) h dX12_retryCell_92 (by decide) ?_
                    refine ca_pick [3, 4, 5, 1, 0] rfl ?_
                    have e9 : k_rc n (nI s) (n 3 m 0) (n 3 m 1) (j + 1) = if ¬ n 2 (k_rx (nI s) (nI j)) 0 = 0 ∧ (k_rc n (nI s) (n 3 m 0) (n 3 m 1) j).2 < k_lv n j (n 3 m 0) (n 3 m 1) ∧ k_use n (nI j) (n 3 m 0) (n 3 m 1) = true ∧ k_free n (nI j) = true then (nI j, k_lv n j (n 3 m 0) (n 3 m 1)) else k_rc n (nI s) (n 3 m 0) (n 3 m 1) j := rfl
                    have hj8 : j < 8 := by omega
                    have c8 := of_decide_eq_true (bI_n0.mp c_23)
                    have g1 : ¬ n 2 (k_rx (nI s) (nI j)) 0 = 0 := by rw [r_rx hs8 hj8]; exact fun z => c8 ((r_nb hN hs8 hj8).mpr z)
                    have g4 := bI_n0.mp c_32
                    have c9 := c_50
                    rw [r_cf hN hn1 (f := 6) (by decide)] at c9
                    have g3 : k_use n (nI j) (n 3 m 0) (n 3 m 1) = true := by unfold k_use; rw [k_cel hj8, decide_eq_false c9]; rfl
                    exact ih_5 (j + 1) (by omega) _ (by rw [e9, if_pos ⟨g1, by rw [h2]; exact c_83, g3, g4⟩]) _ (nI_1 j)
  refine ca_pick [2, 3, 4, 1, 0] rfl ?_
  exact loop_5 _ 0 (Nat.zero_add _) _ rfl _ rfl
set_option maxHeartbeats 100000 in
theorem c_X12_marginOf {l : Launch} {E : ch_E} {S : ch_S} {μ : ch_M} (hs : ch_Std E S) {n : ch_N} (hN : r_N n (μ 16 23 0)) {m c s : Nat} (hm : m < k_mc n) (ht : n 3 m 4 = 1) (hsc : s < k_cc n) (h5 : n 3 m 5 = nI s) (hp : 0 < n 5 m s) (hc : c < k_cc n) {em : Int32} : ch_C E l yX12_marginOf cX12_marginOf 7 (some FieldType.int) 4 0 0 S μ [.ref (S.1 16 22 0), .int (nI m), .int (nI c), .int em] (ch_F (some (.int (k_max 0 (k_mg n em m (nI c))))) S (μ)) := by
  refine ch_enter rfl rfl ?_
  intro X hl0 h hG hR hnm
  have h : ch_H X E RX12 cX12_marginOf 7 := h
  have hm12 := r_m12 hN hm
  have hs8 := r_c8 hN hsc
  have hc8 := r_c8 hN hc
  have hmin : 0 < n 0 0 5 := hN.2.1.2.1.2.2.1
  show ch_W X E 7 S μ 0 0 0 [(0, .ref (S.1 16 22 0)), (1, .int (nI m)), (2, .int (nI c)), (3, .int em)] []
  refine ca_aload_nr h dX12_marginOf_0 rfl ?_
  refine ca_iload_n h dX12_marginOf_1 rfl ?_
  refine ca_iconst h dX12_marginOf_2 ik_5 ?_
  refine ca_vi h hG ml_X12_77 (c_X12_of hs (f := 5) (by omega) (by decide)) (ci := 12) rfl rfl rfl (hs.1 _ _ _ ⟨rfl, rfl⟩) rfl rfl rfl rfl ⟨Nat.le_refl _, Nat.le_refl _⟩ rfl dX12_marginOf_3 ?_
  rw [r_f hN hm (f := 5) (by decide), h5]
  refine ca_istore h dX12_marginOf_6 rfl ?_
  refine ca_aload_nr h dX12_marginOf_8 rfl ?_
  refine ca_aload_nr h dX12_marginOf_9 rfl ?_
  refine gs_X12_9 h hs ⟨rfl, rfl⟩ dX12_marginOf_10 ?_
  refine ca_iload h dX12_marginOf_13 rfl ?_
  refine ca_iload_n h dX12_marginOf_15 rfl ?_
  refine ca_vi h hG ml_X12_81 (c_X12_relationOf hs (r_24 hN)) (ci := 12) rfl rfl rfl (hs.1 _ _ _ ⟨rfl, rfl⟩) rfl rfl rfl rfl ⟨Nat.le_refl _, Nat.le_refl _⟩ rfl dX12_marginOf_16 ?_
  refine ca_istore h dX12_marginOf_19 rfl ?_
  refine ca_iload h dX12_marginOf_21 rfl ?_
  refine ca_iconst h dX12_marginOf_23 ik_m1 ?_
  refine ca_icmp_eq (tgt := 42) h dX12_marginOf_24 (by decide) (fun c_24 => ?_) (fun c_24 => ?_)
  ·
    refine ca_iconst h dX12_marginOf_42 ik_0 ?_
    refine ca_ireturn h hR rfl dX12_marginOf_43 ?_
    refine ⟨?_, rfl, rfl⟩
    have e0 : k_mg n em m (nI c) = 0 := by
      unfold k_mg
      rw [h5, r_rx hs8 hc8, if_pos ((r_nb hN hs8 hc8).mp c_24)]
    rw [e0]; rfl
  ·
    rcases r_find hN.2.2.2.1 hs8 hc8 hN.2.2.2.2.2.2.1 with ⟨e1, -⟩ | ⟨r, hr, hr24, e1, e2, -, -, -, e5, -⟩
    · exact absurd e1 c_24
    rw [e1]
    refine ca_aload_nr h dX12_marginOf_27 rfl ?_
    refine ca_iload_n h dX12_marginOf_28 rfl ?_
    refine ca_iload_n h dX12_marginOf_29 rfl ?_
    refine ca_vi h hG ml_X12_154 (c_X12_reportsOf hs hm12 hc8) (ci := 12) rfl rfl rfl (hs.1 _ _ _ ⟨rfl, rfl⟩) rfl rfl rfl rfl ⟨Nat.le_refl _, Nat.le_refl _⟩ rfl dX12_marginOf_30 ?_
    refine ca_aload_nr h dX12_marginOf_33 rfl ?_
    refine gs_X12_9 h hs ⟨rfl, rfl⟩ dX12_marginOf_34 ?_
    refine ca_iconst h dX12_marginOf_37 ik_5 ?_
    refine ca_iald h rfl (hs.1 _ _ _ ⟨rfl, rfl⟩) (vp_in_nI (n := 5) (N := 1302) (by decide) (by decide)) dX12_marginOf_38 ?_
    refine ca_icmp_ge (tgt := 44) h dX12_marginOf_39 (by decide) (fun c_39 => ?_) (fun c_39 => ?_)
    ·
      have c9 := c_39
      rw [r_ct hN hm ht hc8, show μ 16 23 0 (Int32.toNatClampNeg 5) = n 0 0 5 from hN.1 5 (by decide)] at c9
      have hpc : 0 < n 5 m c := Int32.lt_of_lt_of_le hmin (Int32.not_lt.mp c9)
      refine ca_aload_nr h dX12_marginOf_44 rfl ?_
      refine ca_iload_n h dX12_marginOf_45 rfl ?_
      refine ca_iload_n h dX12_marginOf_46 rfl ?_
      refine ca_vi h hG ml_X12_204 (c_X12_averageOf hs hN hm ht hc8 hpc) (ci := 12) rfl rfl rfl (hs.1 _ _ _ ⟨rfl, rfl⟩) rfl rfl rfl rfl ⟨Nat.le_refl _, Nat.le_refl _⟩ rfl dX12_marginOf_47 ?_
      refine ca_istore h dX12_marginOf_50 rfl ?_
      refine ca_iload h dX12_marginOf_52 rfl ?_
      refine ca_aload_nr h dX12_marginOf_54 rfl ?_
      refine ca_iload_n h dX12_marginOf_55 rfl ?_
      refine ca_bipush h dX12_marginOf_56 bk_6 ?_
      refine ca_vi h hG ml_X12_85 (c_X12_ofCell hs (f := 6) (by omega) (by decide)) (ci := 12) rfl rfl rfl (hs.1 _ _ _ ⟨rfl, rfl⟩) rfl rfl rfl rfl ⟨Nat.le_refl _, Nat.le_refl _⟩ rfl dX12_marginOf_58 ?_
      refine ca_icmp_lt (tgt := 77) h dX12_marginOf_61 (by decide) (fun c_61 => ?_) (fun c_61 => ?_)
      ·
        have c8 := c_61
        rw [r_cf hN hc (f := 6) (by decide)] at c8
        refine ca_iconst h dX12_marginOf_77 ik_0 ?_
        refine ca_ireturn h hR rfl dX12_marginOf_78 ?_
        refine ⟨?_, rfl, rfl⟩
        have e0 : k_mg n em m (nI c) = 0 := by
          unfold k_mg
          rw [h5, r_rx hs8 hc8, if_neg e2, if_neg (by rw [k_rep_c hc8]; exact c9)]
          by_cases hb : em = 0 ∧ k_isb n m (nI c) (n 0 0 3) = true
          · rw [if_pos hb]
          · rw [if_neg hb, if_pos (by rw [k_cel hc8]; exact c8)]
        rw [e0]; rfl
      ·
        have c8 := c_61
        rw [r_cf hN hc (f := 6) (by decide)] at c8
        refine ca_iload_n h dX12_marginOf_64 rfl ?_
        refine ca_if_ne (tgt := 79) h dX12_marginOf_65 (by decide) (fun c_65 => ?_) (fun c_65 => ?_)
        ·
          refine ca_iconst h dX12_marginOf_79 ik_0 ?_
          refine ca_iload h dX12_marginOf_80 rfl ?_
          refine ca_aload_nr h dX12_marginOf_82 rfl ?_
          refine ca_iload_n h dX12_marginOf_83 rfl ?_
          refine ca_iload h dX12_marginOf_84 rfl ?_
          refine ca_vi h hG ml_X12_204 (c_X12_averageOf hs hN hm ht hs8 hp) (ci := 12) rfl rfl rfl (hs.1 _ _ _ ⟨rfl, rfl⟩) rfl rfl rfl rfl ⟨Nat.le_refl _, Nat.le_refl _⟩ rfl dX12_marginOf_86 ?_
          refine ca_isub h dX12_marginOf_89 ?_
          refine ca_iload_n h dX12_marginOf_90 rfl ?_
          refine ca_if_eq (tgt := 98) h dX12_marginOf_91 (by decide) (fun c_91 => ?_) (fun c_91 => ?_)
          · exact absurd c_91 c_65
          ·
            refine ca_iconst h dX12_marginOf_94 ik_0 ?_
            refine ca_goto (tgt := 105) h dX12_marginOf_95 (by decide) ?_
            refine ca_isub h dX12_marginOf_105 ?_
            refine ca_mmax h hG rfl rfl rfl kw_1424 kw_775 kw_16 kw_776 (Nat.le_of_ble_eq_true rfl) dX12_marginOf_106 ?_
            refine ca_ireturn h hR rfl dX12_marginOf_109 ?_
            refine ⟨?_, rfl, rfl⟩
            have e0 : k_mg n em m (nI c) = k_avg n m (nI c) - k_avg n m (nI s) := by
              unfold k_mg
              rw [h5, r_rx hs8 hc8, if_neg e2, if_neg (by rw [k_rep_c hc8]; exact c9), if_neg (fun z => c_65 z.1), if_neg (by rw [k_cel hc8]; exact c8), if_neg c_65]
            rw [e0, Int32.sub_zero]; rfl
        ·
          refine ca_aload_nr h dX12_marginOf_68 rfl ?_
          refine ca_iload_n h dX12_marginOf_69 rfl ?_
          refine ca_iload_n h dX12_marginOf_70 rfl ?_
          refine ca_vi h hG ml_X12_198 (c_X12_isBarredNow hs hN hm ht hc8) (ci := 12) rfl rfl rfl (hs.1 _ _ _ ⟨rfl, rfl⟩) rfl rfl rfl rfl ⟨Nat.le_refl _, Nat.le_refl _⟩ rfl dX12_marginOf_71 ?_
          refine ca_if_eq (tgt := 79) h dX12_marginOf_74 (by decide) (fun c_74 => ?_) (fun c_74 => ?_)
          ·
            refine ca_iconst h dX12_marginOf_79 ik_0 ?_
            refine ca_iload h dX12_marginOf_80 rfl ?_
            refine ca_aload_nr h dX12_marginOf_82 rfl ?_
            refine ca_iload_n h dX12_marginOf_83 rfl ?_
            refine ca_iload h dX12_marginOf_84 rfl ?_
            refine ca_vi h hG ml_X12_204 (c_X12_averageOf hs hN hm ht hs8 hp) (ci := 12) rfl rfl rfl (hs.1 _ _ _ ⟨rfl, rfl⟩) rfl rfl rfl rfl ⟨Nat.le_refl _, Nat.le_refl _⟩ rfl dX12_marginOf_86 ?_
            refine ca_isub h dX12_marginOf_89 ?_
            refine ca_iload_n h dX12_marginOf_90 rfl ?_
            refine ca_if_eq (tgt := 98) h dX12_marginOf_91 (by decide) (fun c_91 => ?_) (fun c_91 => ?_)
            ·
              refine ca_aload_nr h dX12_marginOf_98 rfl ?_
              refine ca_iload h dX12_marginOf_99 rfl ?_
              refine ca_iconst h dX12_marginOf_101 ik_2 ?_
              refine ca_vi h hG ml_X12_128 (c_X12_ofRelation hs hr24 (by decide)) (ci := 12) rfl rfl rfl (hs.1 _ _ _ ⟨rfl, rfl⟩) rfl rfl rfl rfl ⟨Nat.le_refl _, Nat.le_refl _⟩ rfl dX12_marginOf_102 ?_
              rw [e5]
              refine ca_isub h dX12_marginOf_105 ?_
              refine ca_mmax h hG rfl rfl rfl kw_1424 kw_775 kw_16 kw_776 (Nat.le_of_ble_eq_true rfl) dX12_marginOf_106 ?_
              refine ca_ireturn h hR rfl dX12_marginOf_109 ?_
              refine ⟨?_, rfl, rfl⟩
              have e0 : k_mg n em m (nI c) = k_avg n m (nI c) - k_avg n m (nI s) - n 2 (8 * s + c) 1 := by
                unfold k_mg
                rw [h5, r_rx hs8 hc8, if_neg e2, if_neg (by rw [k_rep_c hc8]; exact c9), if_neg (fun z => bI_n0.mpr z.2 c_74), if_neg (by rw [k_cel hc8]; exact c8), if_pos c_65]
              rw [e0]; rfl
            · exact absurd c_65 c_91
          ·
            refine ca_iconst h dX12_marginOf_77 ik_0 ?_
            refine ca_ireturn h hR rfl dX12_marginOf_78 ?_
            refine ⟨?_, rfl, rfl⟩
            have e0 : k_mg n em m (nI c) = 0 := by
              unfold k_mg
              rw [h5, r_rx hs8 hc8, if_neg e2, if_neg (by rw [k_rep_c hc8]; exact c9), if_pos ⟨c_65, bI_n0.mp c_74⟩]
            rw [e0]; rfl
    ·
      have c9 := c_39
      rw [r_ct hN hm ht hc8, show μ 16 23 0 (Int32.toNatClampNeg 5) = n 0 0 5 from hN.1 5 (by decide)] at c9
      refine ca_iconst h dX12_marginOf_42 ik_0 ?_
      refine ca_ireturn h hR rfl dX12_marginOf_43 ?_
      refine ⟨?_, rfl, rfl⟩
      have e0 : k_mg n em m (nI c) = 0 := by
        unfold k_mg
        rw [h5, r_rx hs8 hc8, if_neg e2, if_pos (by rw [k_rep_c hc8]; exact c9)]
      rw [e0]; rfl
