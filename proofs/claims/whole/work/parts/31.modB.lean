/-! THE REFERENCE, its questions: over a row that holds n they answer what the class's do -/
theorem r_f {n : ch_N} {w : Nat → Int32} (h : r_N n w) {m f : Nat} (hm : m < k_mc n) (hf : f < 7) : w (210 + 91 * m + f) = n 3 m f := (h.2.2.2.2.1 m hm).1 f hf
theorem r_8 {n : ch_N} {w : Nat → Int32} (h : r_N n w) {m : Nat} (hm : m < k_mc n) : w (210 + 91 * m + 8) = n 3 m 8 := (h.2.2.2.2.1 m hm).2.1
theorem r_cf {n : ch_N} {w : Nat → Int32} (h : r_N n w) {c f : Nat} (hc : c < k_cc n) (hf : f < 9) : w (18 + 9 * c + f) = n 1 c f := h.2.2.1 c f hc hf
theorem r_m12 {n : ch_N} {w : Nat → Int32} (h : r_N n w) {m : Nat} (hm : m < k_mc n) : m < 12 := Nat.lt_of_lt_of_le hm h.2.2.2.2.2.1
theorem r_c8 {n : ch_N} {w : Nat → Int32} (h : r_N n w) {c : Nat} (hc : c < k_cc n) : c < 8 := Nat.lt_of_lt_of_le hc h.2.2.2.2.2.2.1
theorem nI_nm1 {a : Nat} (h : a < 2 ^ 31) : ¬ nI a = -1 := fun z => by have := nI_pos h; rw [z] at this; exact this (by decide)
theorem k_lv_nn (n : ch_N) (c : Nat) (x y : Int32) : (-1 : Int32) < k_lv n c x y := by
  unfold k_lv k_max
  split
  · rename_i h
    exact Int32.lt_trans (by decide) h
  · decide
theorem k_ld_inv (n : ch_N) (x y : Int32) : ∀ N, ((k_ld n x y N).1 = -1 ∧ (k_ld n x y N).2 = -1 ∧ N = 0) ∨ ∃ b, b < N ∧ (k_ld n x y N).1 = nI b ∧ (k_ld n x y N).2 = k_lv n b x y
  | 0 => Or.inl ⟨rfl, rfl, rfl⟩
  | N + 1 => by
    have ih := k_ld_inv n x y N
    have e : k_ld n x y (N + 1) = if (k_ld n x y N).2 < k_lv n N x y then (nI N, k_lv n N x y) else k_ld n x y N := rfl
    by_cases h : (k_ld n x y N).2 < k_lv n N x y
    · rw [if_pos h] at e
      exact Or.inr ⟨N, Nat.lt_succ_self N, by rw [e], by rw [e]⟩
    · rw [if_neg h] at e
      rcases ih with ⟨-, h2, -⟩ | ⟨b, hb, h1, h2⟩
      · exact absurd (by rw [h2]; exact k_lv_nn n N x y) h
      · exact Or.inr ⟨b, Nat.lt_succ_of_lt hb, by rw [e, h1], by rw [e, h2]⟩
theorem k_cb_self (n : ch_N) (i : Nat) : k_cb n i i = false := by
  unfold k_cb
  rw [if_pos rfl, if_pos rfl]
  exact decide_eq_false (fun z => Int32.lt_irrefl z)
set_option maxHeartbeats 100000 in
theorem c_X12_levelFor {l : Launch} {E : ch_E} {S : ch_S} {μ : ch_M} (hs : ch_Std E S) {n : ch_N} (hN : r_N n (μ 16 23 0)) {c m : Nat} (hc : c < k_cc n) (hm : m < k_mc n) : ch_C E l yX12_levelFor cX12_levelFor 3 (some FieldType.int) 3 0 0 S μ [.ref (S.1 16 22 0), .int (nI c), .int (nI m)] (ch_F (some (.int (k_lv n c (n 3 m 0) (n 3 m 1)))) S (μ)) := by
  refine ch_enter rfl rfl ?_
  intro X hl0 h hG hR hnm
  have h : ch_H X E RX12 cX12_levelFor 3 := h
  have hm12 := r_m12 hN hm
  have hc8 := r_c8 hN hc
  show ch_W X E 3 S μ 0 0 0 [(0, .ref (S.1 16 22 0)), (1, .int (nI c)), (2, .int (nI m))] []
  refine ca_aload_nr h dX12_levelFor_0 rfl ?_
  refine ca_iload_n h dX12_levelFor_1 rfl ?_
  refine ca_aload_nr h dX12_levelFor_2 rfl ?_
  refine ca_iload_n h dX12_levelFor_3 rfl ?_
  refine ca_iconst h dX12_levelFor_4 ik_0 ?_
  refine ca_vi h hG ml_X12_77 (c_X12_of hs (f := 0) (by omega) (by decide)) (ci := 12) rfl rfl rfl (hs.1 _ _ _ ⟨rfl, rfl⟩) rfl rfl rfl rfl ⟨Nat.le_refl _, Nat.le_refl _⟩ rfl dX12_levelFor_5 ?_
  refine ca_aload_nr h dX12_levelFor_8 rfl ?_
  refine ca_iload_n h dX12_levelFor_9 rfl ?_
  refine ca_iconst h dX12_levelFor_10 ik_1 ?_
  refine ca_vi h hG ml_X12_77 (c_X12_of hs (f := 1) (by omega) (by decide)) (ci := 12) rfl rfl rfl (hs.1 _ _ _ ⟨rfl, rfl⟩) rfl rfl rfl rfl ⟨Nat.le_refl _, Nat.le_refl _⟩ rfl dX12_levelFor_11 ?_
  rw [r_f hN hm (f := 0) (by decide), r_f hN hm (f := 1) (by decide)]
  refine ca_vi h hG ml_X12_97 (c_X12_levelAt hs (by first | omega | exact r_c8 hN (by assumption)) (fun f hf => r_cf hN (by first | assumption | omega) hf)) (ci := 12) rfl rfl rfl (hs.1 _ _ _ ⟨rfl, rfl⟩) rfl rfl rfl rfl ⟨Nat.le_refl _, Nat.le_refl _⟩ rfl dX12_levelFor_14 ?_
  refine ca_ireturn h hR rfl dX12_levelFor_17 ?_
  exact ⟨rfl, rfl, rfl⟩
set_option maxHeartbeats 100000 in
theorem c_X12_strongest {l : Launch} {E : ch_E} {S : ch_S} {μ : ch_M} (hs : ch_Std E S) {n : ch_N} (hN : r_N n (μ 16 23 0)) {x y : Int32} : ch_C E l yX12_strongest cX12_strongest 5 (some FieldType.int) 3 0 0 S μ [.ref (S.1 16 22 0), .int x, .int y] (ch_F (some (.int ((k_ld n x y (k_cc n)).1))) S (μ)) := by
  refine ch_enter rfl rfl ?_
  intro X hl0 h hG hR hnm
  have h : ch_H X E RX12 cX12_strongest 5 := h
  have hcc := hN.2.2.2.2.2.2.1
  show ch_W X E 5 S μ 0 0 0 [(0, .ref (S.1 16 22 0)), (1, .int x), (2, .int y)] []
  refine ca_iconst h dX12_strongest_0 ik_m1 ?_
  refine ca_istore_n h dX12_strongest_1 rfl ?_
  refine ca_iconst h dX12_strongest_2 ik_0 ?_
  refine ca_istore h dX12_strongest_3 rfl ?_
  have loop_5 : ∀ (jj j : Nat), j + jj = k_cc n → ∀ (x3 : Int32) (e3 : x3 = (k_ld n x y j).1) (x4 : Int32) (e4 : x4 = nI j), ch_W X E 5 S μ 0 0 5 [(0, .ref (S.1 16 22 0)), (1, .int x), (2, .int y), (3, .int x3), (4, .int x4)] [] := by
    intro jj
    induction jj with
    | zero =>
      intro j hn x3 e3 x4 e4
      have hn : j = k_cc n := by omega
      subst e3 e4
      refine ca_iload h dX12_strongest_5 rfl ?_
      refine ca_aload_nr h dX12_strongest_7 rfl ?_
      refine gs_X12_9 h hs ⟨rfl, rfl⟩ dX12_strongest_8 ?_
      refine ca_iconst h dX12_strongest_11 ik_0 ?_
      refine ca_iald h rfl (hs.1 _ _ _ ⟨rfl, rfl⟩) (vp_in_nI (n := 0) (N := 1302) (by decide) (by decide)) dX12_strongest_12 ?_
      refine ca_icmp_ge (tgt := 48) h dX12_strongest_13 (by decide) (fun c_13 => ?_) (fun c_13 => ?_)
      ·
        refine ca_iload_n h dX12_strongest_48 rfl ?_
        refine ca_ireturn h hR rfl dX12_strongest_49 ?_
        exact ⟨by rw [hn], rfl, rfl⟩
      · exact absurd c_13 (lt_no (show k_cc n = Int32.toNatClampNeg (μ 16 23 0 (Int32.toNatClampNeg 0)) from r_cc hN) hn)
    | succ jj ih_5 =>
      intro j hn x3 e3 x4 e4
      have hn1 : j < k_cc n := by omega
      subst e3 e4
      have hld := k_ld_inv n x y j
      refine ca_iload h dX12_strongest_5 rfl ?_
      refine ca_aload_nr h dX12_strongest_7 rfl ?_
      refine gs_X12_9 h hs ⟨rfl, rfl⟩ dX12_strongest_8 ?_
      refine ca_iconst h dX12_strongest_11 ik_0 ?_
      refine ca_iald h rfl (hs.1 _ _ _ ⟨rfl, rfl⟩) (vp_in_nI (n := 0) (N := 1302) (by decide) (by decide)) dX12_strongest_12 ?_
      refine ca_icmp_ge (tgt := 48) h dX12_strongest_13 (by decide) (fun c_13 => ?_) (fun c_13 => ?_)
      · exact absurd (lt_yes (show k_cc n = Int32.toNatClampNeg (μ 16 23 0 (Int32.toNatClampNeg 0)) from r_cc hN) hn1) c_13
      ·
        refine ca_iload_n h dX12_strongest_16 rfl ?_
        refine ca_iconst h dX12_strongest_17 ik_m1 ?_
        refine ca_icmp_eq (tgt := 39) h dX12_strongest_18 (by decide) (fun c_18 => ?_) (fun c_18 => ?_)
        ·
          refine ca_iload h dX12_strongest_39 rfl ?_
          refine ca_istore_n h dX12_strongest_41 rfl ?_
          refine ca_iinc h dX12_strongest_42 rfl ik_1 rfl ?_
          refine ca_goto (tgt := 5) h dX12_strongest_45 (by decide) ?_
          refine ca_pick [2, 3, 4, 1, 0] rfl ?_
          exact ih_5 (j + 1) (by omega) _ (by
            have e9 : k_ld n x y (j + 1) = if (k_ld n x y j).2 < k_lv n j x y then (nI j, k_lv n j x y) else k_ld n x y j := rfl
            rcases hld with ⟨h1, h2, h3⟩ | ⟨b, hb, h1, h2⟩
            · rw [e9, if_pos (by rw [h2]; exact k_lv_nn n j x y)]
            · exact absurd (h1.symm.trans c_18) (nI_nm1 (by omega))) _ (nI_1 j)
        ·
          rcases hld with ⟨h1, -, -⟩ | ⟨b, hb, h1, h2⟩
          · exact absurd h1 c_18
          rw [h1]
          have hbc : b < k_cc n := by omega
          refine ca_aload_nr h dX12_strongest_21 rfl ?_
          refine ca_iload h dX12_strongest_22 rfl ?_
          refine ca_iload_n h dX12_strongest_24 rfl ?_
          refine ca_iload_n h dX12_strongest_25 rfl ?_
          refine ca_vi h hG ml_X12_97 (c_X12_levelAt hs (by first | omega | exact r_c8 hN (by assumption)) (fun f hf => r_cf hN (by first | assumption | omega) hf)) (ci := 12) rfl rfl rfl (hs.1 _ _ _ ⟨rfl, rfl⟩) rfl rfl rfl rfl ⟨Nat.le_refl _, Nat.le_refl _⟩ rfl dX12_strongest_26 ?_
          refine ca_aload_nr h dX12_strongest_29 rfl ?_
          refine ca_iload_n h dX12_strongest_30 rfl ?_
          refine ca_iload_n h dX12_strongest_31 rfl ?_
          refine ca_iload_n h dX12_strongest_32 rfl ?_
          refine ca_vi h hG ml_X12_97 (c_X12_levelAt hs (by first | omega | exact r_c8 hN (by assumption)) (fun f hf => r_cf hN (by first | assumption | omega) hf)) (ci := 12) rfl rfl rfl (hs.1 _ _ _ ⟨rfl, rfl⟩) rfl rfl rfl rfl ⟨Nat.le_refl _, Nat.le_refl _⟩ rfl dX12_strongest_33 ?_
          refine ca_icmp_le (tgt := 42) h dX12_strongest_36 (by decide) (fun c_36 => ?_) (fun c_36 => ?_)
          ·
            refine ca_iinc h dX12_strongest_42 rfl ik_1 rfl ?_
            refine ca_goto (tgt := 5) h dX12_strongest_45 (by decide) ?_
            refine ca_pick [1, 2, 3, 4, 0] rfl ?_
            exact ih_5 (j + 1) (by omega) _ (by
              have e9 : k_ld n x y (j + 1) = if (k_ld n x y j).2 < k_lv n j x y then (nI j, k_lv n j x y) else k_ld n x y j := rfl
              rw [e9, if_neg (by rw [h2]; exact c_36), h1]) _ (nI_1 j)
          ·
            refine ca_iload h dX12_strongest_39 rfl ?_
            refine ca_istore_n h dX12_strongest_41 rfl ?_
            refine ca_iinc h dX12_strongest_42 rfl ik_1 rfl ?_
            refine ca_goto (tgt := 5) h dX12_strongest_45 (by decide) ?_
            refine ca_pick [2, 3, 4, 1, 0] rfl ?_
            exact ih_5 (j + 1) (by omega) _ (by
              have e9 : k_ld n x y (j + 1) = if (k_ld n x y j).2 < k_lv n j x y then (nI j, k_lv n j x y) else k_ld n x y j := rfl
              rw [e9, if_pos (by rw [h2]; exact c_36)]) _ (nI_1 j)
  refine ca_pick [2, 3, 4, 1, 0] rfl ?_
  exact loop_5 _ 0 (Nat.zero_add _) _ rfl _ rfl
set_option maxHeartbeats 100000 in
theorem c_X12_covering {l : Launch} {E : ch_E} {S : ch_S} {μ : ch_M} (hs : ch_Std E S) {n : ch_N} (hN : r_N n (μ 16 23 0)) {x y : Int32} : ch_C E l yX12_covering cX12_covering 4 (some FieldType.int) 4 0 0 S μ [.ref (S.1 16 22 0), .int x, .int y] (ch_F (some (.int (k_cov n x y))) S (μ)) := by
  refine ch_enter rfl rfl ?_
  intro X hl0 h hG hR hnm
  have h : ch_H X E RX12 cX12_covering 4 := h
  have hcc := hN.2.2.2.2.2.2.1
  have hld := k_ld_inv n x y (k_cc n)
  show ch_W X E 4 S μ 0 0 0 [(0, .ref (S.1 16 22 0)), (1, .int x), (2, .int y)] []
  refine ca_aload_nr h dX12_covering_0 rfl ?_
  refine ca_iload_n h dX12_covering_1 rfl ?_
  refine ca_iload_n h dX12_covering_2 rfl ?_
  refine ca_vi h hG ml_X12_101 (c_X12_strongest hs hN) (ci := 12) rfl rfl rfl (hs.1 _ _ _ ⟨rfl, rfl⟩) rfl rfl rfl rfl ⟨Nat.le_refl _, Nat.le_refl _⟩ rfl dX12_covering_3 ?_
  refine ca_istore_n h dX12_covering_6 rfl ?_
  refine ca_iload_n h dX12_covering_7 rfl ?_
  refine ca_iconst h dX12_covering_8 ik_m1 ?_
  refine ca_icmp_eq (tgt := 33) h dX12_covering_9 (by decide) (fun c_9 => ?_) (fun c_9 => ?_)
  ·
    refine ca_iconst h dX12_covering_33 ik_m1 ?_
    refine ca_ireturn h hR rfl dX12_covering_34 ?_
    exact ⟨by unfold k_cov; rw [if_pos c_9], rfl, rfl⟩
  ·
    rcases hld with ⟨h1, -, -⟩ | ⟨b, hb, h1, h2⟩
    · exact absurd h1 c_9
    rw [h1]
    refine ca_aload_nr h dX12_covering_12 rfl ?_
    refine ca_iload_n h dX12_covering_13 rfl ?_
    refine ca_iload_n h dX12_covering_14 rfl ?_
    refine ca_iload_n h dX12_covering_15 rfl ?_
    refine ca_vi h hG ml_X12_97 (c_X12_levelAt hs (by first | omega | exact r_c8 hN (by assumption)) (fun f hf => r_cf hN (by first | assumption | omega) hf)) (ci := 12) rfl rfl rfl (hs.1 _ _ _ ⟨rfl, rfl⟩) rfl rfl rfl rfl ⟨Nat.le_refl _, Nat.le_refl _⟩ rfl dX12_covering_16 ?_
    refine ca_aload_nr h dX12_covering_19 rfl ?_
    refine ca_iload_n h dX12_covering_20 rfl ?_
    refine ca_bipush h dX12_covering_21 bk_6 ?_
    refine ca_vi h hG ml_X12_85 (c_X12_ofCell hs (f := 6) (by omega) (by decide)) (ci := 12) rfl rfl rfl (hs.1 _ _ _ ⟨rfl, rfl⟩) rfl rfl rfl rfl ⟨Nat.le_refl _, Nat.le_refl _⟩ rfl dX12_covering_23 ?_
    refine ca_icmp_lt (tgt := 33) h dX12_covering_26 (by decide) (fun c_26 => ?_) (fun c_26 => ?_)
    ·
      refine ca_iconst h dX12_covering_33 ik_m1 ?_
      refine ca_ireturn h hR rfl dX12_covering_34 ?_
      have c9 := c_26
      rw [r_cf hN hb (f := 6) (by decide)] at c9
      exact ⟨by unfold k_cov k_use; rw [if_neg c_9, h1, k_cel (show b < 8 by omega), if_neg (by rw [decide_eq_true c9]; decide)], rfl, rfl⟩
    ·
      refine ca_iload_n h dX12_covering_29 rfl ?_
      refine ca_goto (tgt := 34) h dX12_covering_30 (by decide) ?_
      refine ca_ireturn h hR rfl dX12_covering_34 ?_
      have c9 := c_26
      rw [r_cf hN hb (f := 6) (by decide)] at c9
      exact ⟨by unfold k_cov k_use; rw [if_neg c_9, h1, k_cel (show b < 8 by omega), if_pos (by rw [decide_eq_false c9]; rfl)], rfl, rfl⟩
set_option maxHeartbeats 100000 in
theorem c_X12_busy {l : Launch} {E : ch_E} {S : ch_S} {μ : ch_M} (hs : ch_Std E S) {n : ch_N} (hN : r_N n (μ 16 23 0)) {c : Int32} : ch_C E l yX12_busy cX12_busy 4 (some FieldType.int) 3 0 0 S μ [.ref (S.1 16 22 0), .int c] (ch_F (some (.int (k_tk n c))) S (μ)) := by
  refine ch_enter rfl rfl ?_
  intro X hl0 h hG hR hnm
  have h : ch_H X E RX12 cX12_busy 4 := h
  have hmm := hN.2.2.2.2.2.1
  show ch_W X E 4 S μ 0 0 0 [(0, .ref (S.1 16 22 0)), (1, .int c)] []
  refine ca_iconst h dX12_busy_0 ik_0 ?_
  refine ca_istore_n h dX12_busy_1 rfl ?_
  refine ca_iconst h dX12_busy_2 ik_0 ?_
  refine ca_istore_n h dX12_busy_3 rfl ?_
  have loop_4 : ∀ (jj j : Nat), j + jj = k_mc n → ∀ (x2 : Int32) (e2 : x2 = kf (fun i r => if n 3 i 4 = 1 ∧ n 3 i 5 = c then r + 1 else r) j 0) (x3 : Int32) (e3 : x3 = nI j), ch_W X E 4 S μ 0 0 4 [(0, .ref (S.1 16 22 0)), (1, .int c), (2, .int x2), (3, .int x3)] [] := by
    intro jj
    induction jj with
    | zero =>
      intro j hn x2 e2 x3 e3
      have hn : j = k_mc n := by omega
      subst e2 e3
      refine ca_iload_n h dX12_busy_4 rfl ?_
      refine ca_aload_nr h dX12_busy_5 rfl ?_
      refine gs_X12_9 h hs ⟨rfl, rfl⟩ dX12_busy_6 ?_
      refine ca_iconst h dX12_busy_9 ik_2 ?_
      refine ca_iald h rfl (hs.1 _ _ _ ⟨rfl, rfl⟩) (vp_in_nI (n := 2) (N := 1302) (by decide) (by decide)) dX12_busy_10 ?_
      refine ca_icmp_ge (tgt := 46) h dX12_busy_11 (by decide) (fun c_11 => ?_) (fun c_11 => ?_)
      ·
        refine ca_iload_n h dX12_busy_46 rfl ?_
        refine ca_ireturn h hR rfl dX12_busy_47 ?_
        exact ⟨by rw [hn]; rfl, rfl, rfl⟩
      · exact absurd c_11 (lt_no (show k_mc n = Int32.toNatClampNeg (μ 16 23 0 (Int32.toNatClampNeg 2)) from r_mc hN) hn)
    | succ jj ih_4 =>
      intro j hn x2 e2 x3 e3
      have hn1 : j < k_mc n := by omega
      subst e2 e3
      refine ca_iload_n h dX12_busy_4 rfl ?_
      refine ca_aload_nr h dX12_busy_5 rfl ?_
      refine gs_X12_9 h hs ⟨rfl, rfl⟩ dX12_busy_6 ?_
      refine ca_iconst h dX12_busy_9 ik_2 ?_
      refine ca_iald h rfl (hs.1 _ _ _ ⟨rfl, rfl⟩) (vp_in_nI (n := 2) (N := 1302) (by decide) (by decide)) dX12_busy_10 ?_
      refine ca_icmp_ge (tgt := 46) h dX12_busy_11 (by decide) (fun c_11 => ?_) (fun c_11 => ?_)
      · exact absurd (lt_yes (show k_mc n = Int32.toNatClampNeg (μ 16 23 0 (Int32.toNatClampNeg 2)) from r_mc hN) hn1) c_11
      ·
        refine ca_iload_n h dX12_busy_14 rfl ?_
        refine ca_aload_nr h dX12_busy_15 rfl ?_
        refine ca_iload_n h dX12_busy_16 rfl ?_
        refine ca_vi h hG ml_X12_135 (c_X12_talks hs (by omega)) (ci := 12) rfl rfl rfl (hs.1 _ _ _ ⟨rfl, rfl⟩) rfl rfl rfl rfl ⟨Nat.le_refl _, Nat.le_refl _⟩ rfl dX12_busy_17 ?_
        refine ca_if_eq (tgt := 37) h dX12_busy_20 (by decide) (fun c_20 => ?_) (fun c_20 => ?_)
        ·
          refine ca_iconst h dX12_busy_37 ik_0 ?_
          refine ca_iadd h dX12_busy_38 ?_
          refine ca_istore_n h dX12_busy_39 rfl ?_
          refine ca_iinc h dX12_busy_40 rfl ik_1 rfl ?_
          refine ca_goto (tgt := 4) h dX12_busy_43 (by decide) ?_
          refine ca_pick [2, 3, 1, 0] rfl ?_
          exact ih_4 (j + 1) (by omega) _ (by rw [Int32.add_zero]; exact (if_neg (fun z => of_decide_eq_false (bI_0.mp c_20) (by rw [r_f hN hn1 (f := 4) (by decide)]; exact z.1))).symm) _ (nI_1 j)
        ·
          refine ca_aload_nr h dX12_busy_23 rfl ?_
          refine ca_iload_n h dX12_busy_24 rfl ?_
          refine ca_iconst h dX12_busy_25 ik_5 ?_
          refine ca_vi h hG ml_X12_77 (c_X12_of hs (f := 5) (by omega) (by decide)) (ci := 12) rfl rfl rfl (hs.1 _ _ _ ⟨rfl, rfl⟩) rfl rfl rfl rfl ⟨Nat.le_refl _, Nat.le_refl _⟩ rfl dX12_busy_26 ?_
          refine ca_iload_n h dX12_busy_29 rfl ?_
          refine ca_icmp_ne (tgt := 37) h dX12_busy_30 (by decide) (fun c_30 => ?_) (fun c_30 => ?_)
          ·
            refine ca_iconst h dX12_busy_37 ik_0 ?_
            refine ca_iadd h dX12_busy_38 ?_
            refine ca_istore_n h dX12_busy_39 rfl ?_
            refine ca_iinc h dX12_busy_40 rfl ik_1 rfl ?_
            refine ca_goto (tgt := 4) h dX12_busy_43 (by decide) ?_
            refine ca_pick [2, 3, 1, 0] rfl ?_
            exact ih_4 (j + 1) (by omega) _ (by rw [Int32.add_zero]; exact (if_neg (fun z => c_30 (by rw [r_f hN hn1 (f := 5) (by decide)]; exact z.2))).symm) _ (nI_1 j)
          ·
            refine ca_iconst h dX12_busy_33 ik_1 ?_
            refine ca_goto (tgt := 38) h dX12_busy_34 (by decide) ?_
            refine ca_iadd h dX12_busy_38 ?_
            refine ca_istore_n h dX12_busy_39 rfl ?_
            refine ca_iinc h dX12_busy_40 rfl ik_1 rfl ?_
            refine ca_goto (tgt := 4) h dX12_busy_43 (by decide) ?_
            refine ca_pick [2, 3, 1, 0] rfl ?_
            have c8 := of_decide_eq_true (bI_n0.mp c_20)
            have c9 := c_30
            rw [r_f hN hn1 (f := 4) (by decide)] at c8
            rw [r_f hN hn1 (f := 5) (by decide)] at c9
            exact ih_4 (j + 1) (by omega) _ (if_pos ⟨c8, c9⟩).symm _ (nI_1 j)
  refine ca_pick [2, 3, 1, 0] rfl ?_
  exact loop_4 _ 0 (Nat.zero_add _) _ rfl _ rfl
set_option maxHeartbeats 100000 in
theorem c_X12_waitingAt {l : Launch} {E : ch_E} {S : ch_S} {μ : ch_M} (hs : ch_Std E S) {n : ch_N} (hN : r_N n (μ 16 23 0)) {c : Int32} : ch_C E l yX12_waitingAt cX12_waitingAt 4 (some FieldType.int) 2 0 0 S μ [.ref (S.1 16 22 0), .int c] (ch_F (some (.int (k_rq n c))) S (μ)) := by
  refine ch_enter rfl rfl ?_
  intro X hl0 h hG hR hnm
  have h : ch_H X E RX12 cX12_waitingAt 4 := h
  have hmm := hN.2.2.2.2.2.1
  show ch_W X E 4 S μ 0 0 0 [(0, .ref (S.1 16 22 0)), (1, .int c)] []
  refine ca_iconst h dX12_waitingAt_0 ik_0 ?_
  refine ca_istore_n h dX12_waitingAt_1 rfl ?_
  refine ca_iconst h dX12_waitingAt_2 ik_0 ?_
  refine ca_istore_n h dX12_waitingAt_3 rfl ?_
  have loop_4 : ∀ (jj j : Nat), j + jj = k_mc n → ∀ (x2 : Int32) (e2 : x2 = kf (fun i r => if n 3 i 8 = c then r + 1 else r) j 0) (x3 : Int32) (e3 : x3 = nI j), ch_W X E 4 S μ 0 0 4 [(0, .ref (S.1 16 22 0)), (1, .int c), (2, .int x2), (3, .int x3)] [] := by
    intro jj
    induction jj with
    | zero =>
      intro j hn x2 e2 x3 e3
      have hn : j = k_mc n := by omega
      subst e2 e3
      refine ca_iload_n h dX12_waitingAt_4 rfl ?_
      refine ca_aload_nr h dX12_waitingAt_5 rfl ?_
      refine gs_X12_9 h hs ⟨rfl, rfl⟩ dX12_waitingAt_6 ?_
      refine ca_iconst h dX12_waitingAt_9 ik_2 ?_
      refine ca_iald h rfl (hs.1 _ _ _ ⟨rfl, rfl⟩) (vp_in_nI (n := 2) (N := 1302) (by decide) (by decide)) dX12_waitingAt_10 ?_
      refine ca_icmp_ge (tgt := 39) h dX12_waitingAt_11 (by decide) (fun c_11 => ?_) (fun c_11 => ?_)
      ·
        refine ca_iload_n h dX12_waitingAt_39 rfl ?_
        refine ca_ireturn h hR rfl dX12_waitingAt_40 ?_
        exact ⟨by rw [hn]; rfl, rfl, rfl⟩
      · exact absurd c_11 (lt_no (show k_mc n = Int32.toNatClampNeg (μ 16 23 0 (Int32.toNatClampNeg 2)) from r_mc hN) hn)
    | succ jj ih_4 =>
      intro j hn x2 e2 x3 e3
      have hn1 : j < k_mc n := by omega
      subst e2 e3
      refine ca_iload_n h dX12_waitingAt_4 rfl ?_
      refine ca_aload_nr h dX12_waitingAt_5 rfl ?_
      refine gs_X12_9 h hs ⟨rfl, rfl⟩ dX12_waitingAt_6 ?_
      refine ca_iconst h dX12_waitingAt_9 ik_2 ?_
      refine ca_iald h rfl (hs.1 _ _ _ ⟨rfl, rfl⟩) (vp_in_nI (n := 2) (N := 1302) (by decide) (by decide)) dX12_waitingAt_10 ?_
      refine ca_icmp_ge (tgt := 39) h dX12_waitingAt_11 (by decide) (fun c_11 => ?_) (fun c_11 => ?_)
      · exact absurd (lt_yes (show k_mc n = Int32.toNatClampNeg (μ 16 23 0 (Int32.toNatClampNeg 2)) from r_mc hN) hn1) c_11
      ·
        refine ca_iload_n h dX12_waitingAt_14 rfl ?_
        refine ca_aload_nr h dX12_waitingAt_15 rfl ?_
        refine ca_iload_n h dX12_waitingAt_16 rfl ?_
        refine ca_bipush h dX12_waitingAt_17 bk_8 ?_
        refine ca_vi h hG ml_X12_77 (c_X12_of hs (f := 8) (by omega) (by decide)) (ci := 12) rfl rfl rfl (hs.1 _ _ _ ⟨rfl, rfl⟩) rfl rfl rfl rfl ⟨Nat.le_refl _, Nat.le_refl _⟩ rfl dX12_waitingAt_19 ?_
        refine ca_iload_n h dX12_waitingAt_22 rfl ?_
        refine ca_icmp_ne (tgt := 30) h dX12_waitingAt_23 (by decide) (fun c_23 => ?_) (fun c_23 => ?_)
        ·
          refine ca_iconst h dX12_waitingAt_30 ik_0 ?_
          refine ca_iadd h dX12_waitingAt_31 ?_
          refine ca_istore_n h dX12_waitingAt_32 rfl ?_
          refine ca_iinc h dX12_waitingAt_33 rfl ik_1 rfl ?_
          refine ca_goto (tgt := 4) h dX12_waitingAt_36 (by decide) ?_
          refine ca_pick [2, 3, 1, 0] rfl ?_
          exact ih_4 (j + 1) (by omega) _ (by rw [Int32.add_zero]; exact (if_neg (fun z => c_23 (by rw [r_8 hN hn1]; exact z))).symm) _ (nI_1 j)
        ·
          refine ca_iconst h dX12_waitingAt_26 ik_1 ?_
          refine ca_goto (tgt := 31) h dX12_waitingAt_27 (by decide) ?_
          refine ca_iadd h dX12_waitingAt_31 ?_
          refine ca_istore_n h dX12_waitingAt_32 rfl ?_
          refine ca_iinc h dX12_waitingAt_33 rfl ik_1 rfl ?_
          refine ca_goto (tgt := 4) h dX12_waitingAt_36 (by decide) ?_
          refine ca_pick [2, 3, 1, 0] rfl ?_
          have c9 := c_23
          rw [r_8 hN hn1] at c9
          exact ih_4 (j + 1) (by omega) _ (if_pos c9).symm _ (nI_1 j)
  refine ca_pick [2, 3, 1, 0] rfl ?_
  exact loop_4 _ 0 (Nat.zero_add _) _ rfl _ rfl
set_option maxHeartbeats 100000 in
theorem c_X12_hasFreeChannel {l : Launch} {E : ch_E} {S : ch_S} {μ : ch_M} (hs : ch_Std E S) {n : ch_N} (hN : r_N n (μ 16 23 0)) {c : Nat} (hc : c < k_cc n) : ch_C E l yX12_hasFreeChannel cX12_hasFreeChannel 2 (some FieldType.boolean) 4 0 0 S μ [.ref (S.1 16 22 0), .int (nI c)] (ch_F (some (.int (bI (k_free n (nI c))))) S (μ)) := by
  refine ch_enter rfl rfl ?_
  intro X hl0 h hG hR hnm
  have h : ch_H X E RX12 cX12_hasFreeChannel 2 := h
  have hc8 := r_c8 hN hc
  show ch_W X E 2 S μ 0 0 0 [(0, .ref (S.1 16 22 0)), (1, .int (nI c))] []
  refine ca_aload_nr h dX12_hasFreeChannel_0 rfl ?_
  refine ca_iload_n h dX12_hasFreeChannel_1 rfl ?_
  refine ca_vi h hG ml_X12_138 (c_X12_busy hs hN) (ci := 12) rfl rfl rfl (hs.1 _ _ _ ⟨rfl, rfl⟩) rfl rfl rfl rfl ⟨Nat.le_refl _, Nat.le_refl _⟩ rfl dX12_hasFreeChannel_2 ?_
  refine ca_aload_nr h dX12_hasFreeChannel_5 rfl ?_
  refine ca_iload_n h dX12_hasFreeChannel_6 rfl ?_
  refine ca_iconst h dX12_hasFreeChannel_7 ik_4 ?_
  refine ca_vi h hG ml_X12_85 (c_X12_ofCell hs (f := 4) (by omega) (by decide)) (ci := 12) rfl rfl rfl (hs.1 _ _ _ ⟨rfl, rfl⟩) rfl rfl rfl rfl ⟨Nat.le_refl _, Nat.le_refl _⟩ rfl dX12_hasFreeChannel_8 ?_
  refine ca_icmp_ge (tgt := 18) h dX12_hasFreeChannel_11 (by decide) (fun c_11 => ?_) (fun c_11 => ?_)
  ·
    refine ca_iconst h dX12_hasFreeChannel_18 ik_0 ?_
    refine ca_ireturn h hR rfl dX12_hasFreeChannel_19 ?_
    have c9 := c_11
    rw [r_cf hN hc (f := 4) (by decide)] at c9
    exact ⟨by unfold k_free; rw [k_cel hc8]; simp [bI, c9], rfl, rfl⟩
  ·
    refine ca_iconst h dX12_hasFreeChannel_14 ik_1 ?_
    refine ca_goto (tgt := 19) h dX12_hasFreeChannel_15 (by decide) ?_
    refine ca_ireturn h hR rfl dX12_hasFreeChannel_19 ?_
    have c9 := c_11
    rw [r_cf hN hc (f := 4) (by decide)] at c9
    exact ⟨by unfold k_free; rw [k_cel hc8]; simp [bI, c9], rfl, rfl⟩
set_option maxHeartbeats 100000 in
theorem c_X12_hasRoom {l : Launch} {E : ch_E} {S : ch_S} {μ : ch_M} (hs : ch_Std E S) {n : ch_N} (hN : r_N n (μ 16 23 0)) {c : Nat} (hc : c < k_cc n) : ch_C E l yX12_hasRoom cX12_hasRoom 2 (some FieldType.boolean) 3 0 0 S μ [.ref (S.1 16 22 0), .int (nI c)] (ch_F (some (.int (bI (k_place n (nI c))))) S (μ)) := by
  refine ch_enter rfl rfl ?_
  intro X hl0 h hG hR hnm
  have h : ch_H X E RX12 cX12_hasRoom 2 := h
  have hc8 := r_c8 hN hc
  show ch_W X E 2 S μ 0 0 0 [(0, .ref (S.1 16 22 0)), (1, .int (nI c))] []
  refine ca_aload_nr h dX12_hasRoom_0 rfl ?_
  refine ca_iload_n h dX12_hasRoom_1 rfl ?_
  refine ca_vi h hG ml_X12_141 (c_X12_waitingAt hs hN) (ci := 12) rfl rfl rfl (hs.1 _ _ _ ⟨rfl, rfl⟩) rfl rfl rfl rfl ⟨Nat.le_refl _, Nat.le_refl _⟩ rfl dX12_hasRoom_2 ?_
  refine ca_aload_nr h dX12_hasRoom_5 rfl ?_
  refine ca_iload_n h dX12_hasRoom_6 rfl ?_
  refine ca_iconst h dX12_hasRoom_7 ik_5 ?_
  refine ca_vi h hG ml_X12_85 (c_X12_ofCell hs (f := 5) (by omega) (by decide)) (ci := 12) rfl rfl rfl (hs.1 _ _ _ ⟨rfl, rfl⟩) rfl rfl rfl rfl ⟨Nat.le_refl _, Nat.le_refl _⟩ rfl dX12_hasRoom_8 ?_
  refine ca_icmp_ge (tgt := 18) h dX12_hasRoom_11 (by decide) (fun c_11 => ?_) (fun c_11 => ?_)
  ·
    refine ca_iconst h dX12_hasRoom_18 ik_0 ?_
    refine ca_ireturn h hR rfl dX12_hasRoom_19 ?_
    have c9 := c_11
    rw [r_cf hN hc (f := 5) (by decide)] at c9
    exact ⟨by unfold k_place; rw [k_cel hc8]; simp [bI, c9], rfl, rfl⟩
  ·
    refine ca_iconst h dX12_hasRoom_14 ik_1 ?_
    refine ca_goto (tgt := 19) h dX12_hasRoom_15 (by decide) ?_
    refine ca_ireturn h hR rfl dX12_hasRoom_19 ?_
    have c9 := c_11
    rw [r_cf hN hc (f := 5) (by decide)] at c9
    exact ⟨by unfold k_place; rw [k_cel hc8]; simp [bI, c9], rfl, rfl⟩
set_option maxHeartbeats 100000 in
theorem c_X12_isAhead {l : Launch} {E : ch_E} {S : ch_S} {μ : ch_M} (hs : ch_Std E S) {n : ch_N} (hN : r_N n (μ 16 23 0)) {i j : Nat} (hi : i < k_mc n) (hj : j < k_mc n) (hri : ¬ n 3 i 8 = -1) (hrj : ¬ n 3 j 8 = -1) : ch_C E l yX12_isAhead cX12_isAhead 3 (some FieldType.boolean) 2 0 0 S μ [.ref (S.1 16 22 0), .int (nI i), .int (nI j)] (ch_F (some (.int (bI (k_cb n i j)))) S (μ)) := by
  refine ch_enter rfl rfl ?_
  intro X hl0 h hG hR hnm
  have h : ch_H X E RX12 cX12_isAhead 3 := h
  have hi12 := r_m12 hN hi
  have hj12 := r_m12 hN hj
  have hMi := hN.2.2.2.2.1 i hi
  have hMj := hN.2.2.2.2.1 j hj
  obtain ⟨ti, ki⟩ := hMi.2.2.2.1 hri
  obtain ⟨tj, kj⟩ := hMj.2.2.2.1 hrj
  have hsi : n 3 i 4 = 1 ∨ n 3 i 4 = 2 := hMi.2.2.2.2.1.elim (fun z => absurd (hMi.2.2.2.2.2.2.2.1 z) hri) id
  have hsj : n 3 j 4 = 1 ∨ n 3 j 4 = 2 := hMj.2.2.2.2.1.elim (fun z => absurd (hMj.2.2.2.2.2.2.2.1 z) hrj) id
  show ch_W X E 3 S μ 0 0 0 [(0, .ref (S.1 16 22 0)), (1, .int (nI i)), (2, .int (nI j))] []
  refine ca_aload_nr h dX12_isAhead_0 rfl ?_
  refine ca_iload_n h dX12_isAhead_1 rfl ?_
  refine ca_bipush h dX12_isAhead_2 bk_9 ?_
  refine ca_vi h hG ml_X12_77 (c_X12_of hs (f := 9) (by omega) (by decide)) (ci := 12) rfl rfl rfl (hs.1 _ _ _ ⟨rfl, rfl⟩) rfl rfl rfl rfl ⟨Nat.le_refl _, Nat.le_refl _⟩ rfl dX12_isAhead_4 ?_
  refine ca_aload_nr h dX12_isAhead_7 rfl ?_
  refine ca_iload_n h dX12_isAhead_8 rfl ?_
  refine ca_bipush h dX12_isAhead_9 bk_9 ?_
  refine ca_vi h hG ml_X12_77 (c_X12_of hs (f := 9) (by omega) (by decide)) (ci := 12) rfl rfl rfl (hs.1 _ _ _ ⟨rfl, rfl⟩) rfl rfl rfl rfl ⟨Nat.le_refl _, Nat.le_refl _⟩ rfl dX12_isAhead_11 ?_
  rw [ki, kj]
  refine ca_icmp_eq (tgt := 40) h dX12_isAhead_14 (by decide) (fun c_14 => ?_) (fun c_14 => ?_)
  ·
    refine ca_aload_nr h dX12_isAhead_40 rfl ?_
    refine ca_iload_n h dX12_isAhead_41 rfl ?_
    refine ca_bipush h dX12_isAhead_42 bk_10 ?_
    refine ca_vi h hG ml_X12_77 (c_X12_of hs (f := 10) (by omega) (by decide)) (ci := 12) rfl rfl rfl (hs.1 _ _ _ ⟨rfl, rfl⟩) rfl rfl rfl rfl ⟨Nat.le_refl _, Nat.le_refl _⟩ rfl dX12_isAhead_44 ?_
    refine ca_aload_nr h dX12_isAhead_47 rfl ?_
    refine ca_iload_n h dX12_isAhead_48 rfl ?_
    refine ca_bipush h dX12_isAhead_49 bk_10 ?_
    refine ca_vi h hG ml_X12_77 (c_X12_of hs (f := 10) (by omega) (by decide)) (ci := 12) rfl rfl rfl (hs.1 _ _ _ ⟨rfl, rfl⟩) rfl rfl rfl rfl ⟨Nat.le_refl _, Nat.le_refl _⟩ rfl dX12_isAhead_51 ?_
    rw [ti, tj]
    refine ca_icmp_eq (tgt := 82) h dX12_isAhead_54 (by decide) (fun c_54 => ?_) (fun c_54 => ?_)
    ·
      refine ca_iload_n h dX12_isAhead_82 rfl ?_
      refine ca_iload_n h dX12_isAhead_83 rfl ?_
      refine ca_icmp_ge (tgt := 91) h dX12_isAhead_84 (by decide) (fun c_84 => ?_) (fun c_84 => ?_)
      ·
        refine ca_iconst h dX12_isAhead_91 ik_0 ?_
        refine ca_ireturn h hR rfl dX12_isAhead_92 ?_
        refine ⟨?_, rfl, rfl⟩
        clear h hG hR hnm hMi hMj hN hs ti ki tj kj
        rcases hsi with si | si <;> rcases hsj with sj | sj <;> simp_all [k_cb, bI, -Int32.not_lt]
      ·
        refine ca_iconst h dX12_isAhead_87 ik_1 ?_
        refine ca_goto (tgt := 92) h dX12_isAhead_88 (by decide) ?_
        refine ca_ireturn h hR rfl dX12_isAhead_92 ?_
        refine ⟨?_, rfl, rfl⟩
        clear h hG hR hnm hMi hMj hN hs ti ki tj kj
        rcases hsi with si | si <;> rcases hsj with sj | sj <;> simp_all [k_cb, bI, -Int32.not_lt]
    ·
      refine ca_aload_nr h dX12_isAhead_57 rfl ?_
      refine ca_iload_n h dX12_isAhead_58 rfl ?_
      refine ca_bipush h dX12_isAhead_59 bk_10 ?_
      refine ca_vi h hG ml_X12_77 (c_X12_of hs (f := 10) (by omega) (by decide)) (ci := 12) rfl rfl rfl (hs.1 _ _ _ ⟨rfl, rfl⟩) rfl rfl rfl rfl ⟨Nat.le_refl _, Nat.le_refl _⟩ rfl dX12_isAhead_61 ?_
      refine ca_aload_nr h dX12_isAhead_64 rfl ?_
      refine ca_iload_n h dX12_isAhead_65 rfl ?_
      refine ca_bipush h dX12_isAhead_66 bk_10 ?_
      refine ca_vi h hG ml_X12_77 (c_X12_of hs (f := 10) (by omega) (by decide)) (ci := 12) rfl rfl rfl (hs.1 _ _ _ ⟨rfl, rfl⟩) rfl rfl rfl rfl ⟨Nat.le_refl _, Nat.le_refl _⟩ rfl dX12_isAhead_68 ?_
      rw [ti, tj]
      refine ca_icmp_ge (tgt := 78) h dX12_isAhead_71 (by decide) (fun c_71 => ?_) (fun c_71 => ?_)
      ·
        refine ca_iconst h dX12_isAhead_78 ik_0 ?_
        refine ca_goto (tgt := 92) h dX12_isAhead_79 (by decide) ?_
        refine ca_ireturn h hR rfl dX12_isAhead_92 ?_
        refine ⟨?_, rfl, rfl⟩
        clear h hG hR hnm hMi hMj hN hs ti ki tj kj
        rcases hsi with si | si <;> rcases hsj with sj | sj <;> simp_all [k_cb, bI, -Int32.not_lt]
      ·
        refine ca_iconst h dX12_isAhead_74 ik_1 ?_
        refine ca_goto (tgt := 92) h dX12_isAhead_75 (by decide) ?_
        refine ca_ireturn h hR rfl dX12_isAhead_92 ?_
        refine ⟨?_, rfl, rfl⟩
        clear h hG hR hnm hMi hMj hN hs ti ki tj kj
        rcases hsi with si | si <;> rcases hsj with sj | sj <;> simp_all [k_cb, bI, -Int32.not_lt]
  ·
    refine ca_aload_nr h dX12_isAhead_17 rfl ?_
    refine ca_iload_n h dX12_isAhead_18 rfl ?_
    refine ca_bipush h dX12_isAhead_19 bk_9 ?_
    refine ca_vi h hG ml_X12_77 (c_X12_of hs (f := 9) (by omega) (by decide)) (ci := 12) rfl rfl rfl (hs.1 _ _ _ ⟨rfl, rfl⟩) rfl rfl rfl rfl ⟨Nat.le_refl _, Nat.le_refl _⟩ rfl dX12_isAhead_21 ?_
    refine ca_aload_nr h dX12_isAhead_24 rfl ?_
    refine ca_iload_n h dX12_isAhead_25 rfl ?_
    refine ca_bipush h dX12_isAhead_26 bk_9 ?_
    refine ca_vi h hG ml_X12_77 (c_X12_of hs (f := 9) (by omega) (by decide)) (ci := 12) rfl rfl rfl (hs.1 _ _ _ ⟨rfl, rfl⟩) rfl rfl rfl rfl ⟨Nat.le_refl _, Nat.le_refl _⟩ rfl dX12_isAhead_28 ?_
    rw [ki, kj]
    refine ca_icmp_ge (tgt := 38) h dX12_isAhead_31 (by decide) (fun c_31 => ?_) (fun c_31 => ?_)
    ·
      refine ca_iconst h dX12_isAhead_38 ik_0 ?_
      refine ca_ireturn h hR rfl dX12_isAhead_39 ?_
      refine ⟨?_, rfl, rfl⟩
      clear h hG hR hnm hMi hMj hN hs ti ki tj kj
      rcases hsi with si | si <;> rcases hsj with sj | sj <;> simp_all [k_cb, bI, -Int32.not_lt]
    ·
      refine ca_iconst h dX12_isAhead_34 ik_1 ?_
      refine ca_goto (tgt := 39) h dX12_isAhead_35 (by decide) ?_
      refine ca_ireturn h hR rfl dX12_isAhead_39 ?_
      refine ⟨?_, rfl, rfl⟩
      clear h hG hR hnm hMi hMj hN hs ti ki tj kj
      rcases hsi with si | si <;> rcases hsj with sj | sj <;> simp_all [k_cb, bI, -Int32.not_lt]
set_option maxHeartbeats 100000 in
theorem c_X12_requestAt {l : Launch} {E : ch_E} {S : ch_S} {μ : ch_M} (hs : ch_Std E S) {n : ch_N} (hN : r_N n (μ 16 23 0)) {c : Nat} (hc : c < 8) {x : Int32} : ch_C E l yX12_requestAt cX12_requestAt 6 (some FieldType.int) 3 0 0 S μ [.ref (S.1 16 22 0), .int (nI c), .int x] (ch_F (some (.int (k_qm n (nI c) x))) S (μ)) := by
  refine ch_enter rfl rfl ?_
  intro X hl0 h hG hR hnm
  have h : ch_H X E RX12 cX12_requestAt 6 := h
  have hmm := hN.2.2.2.2.2.1
  show ch_W X E 6 S μ 0 0 0 [(0, .ref (S.1 16 22 0)), (1, .int (nI c)), (2, .int x)] []
  refine ca_iconst h dX12_requestAt_0 ik_0 ?_
  refine ca_istore_n h dX12_requestAt_1 rfl ?_
  have loop_2 : ∀ (jj j : Nat), j + jj = k_mc n → ∀ (x3 : Int32) (e3 : x3 = nI j) (hx : k_qm n (nI c) x = kq (fun i => decide (n 3 i 8 = nI c ∧ k_rb n i = x)) (k_mc n) jj), ch_W X E 6 S μ 0 0 2 [(0, .ref (S.1 16 22 0)), (1, .int (nI c)), (2, .int x), (3, .int x3)] [] := by
    intro jj
    induction jj with
    | zero =>
      intro j hn x3 e3 hx
      have hn : j = k_mc n := by omega
      subst e3
      refine ca_iload_n h dX12_requestAt_2 rfl ?_
      refine ca_aload_nr h dX12_requestAt_3 rfl ?_
      refine gs_X12_9 h hs ⟨rfl, rfl⟩ dX12_requestAt_4 ?_
      refine ca_iconst h dX12_requestAt_7 ik_2 ?_
      refine ca_iald h rfl (hs.1 _ _ _ ⟨rfl, rfl⟩) (vp_in_nI (n := 2) (N := 1302) (by decide) (by decide)) dX12_requestAt_8 ?_
      refine ca_icmp_ge (tgt := 101) h dX12_requestAt_9 (by decide) (fun c_9 => ?_) (fun c_9 => ?_)
      ·
        refine ca_iconst h dX12_requestAt_101 ik_m1 ?_
        refine ca_ireturn h hR rfl dX12_requestAt_102 ?_
        exact ⟨by rw [hx]; rfl, rfl, rfl⟩
      · exact absurd c_9 (lt_no (show k_mc n = Int32.toNatClampNeg (μ 16 23 0 (Int32.toNatClampNeg 2)) from r_mc hN) hn)
    | succ jj ih_2 =>
      intro j hn x3 e3 hx
      have hn1 : j < k_mc n := by omega
      subst e3
      have hnj := hn
      refine ca_iload_n h dX12_requestAt_2 rfl ?_
      refine ca_aload_nr h dX12_requestAt_3 rfl ?_
      refine gs_X12_9 h hs ⟨rfl, rfl⟩ dX12_requestAt_4 ?_
      refine ca_iconst h dX12_requestAt_7 ik_2 ?_
      refine ca_iald h rfl (hs.1 _ _ _ ⟨rfl, rfl⟩) (vp_in_nI (n := 2) (N := 1302) (by decide) (by decide)) dX12_requestAt_8 ?_
      refine ca_icmp_ge (tgt := 101) h dX12_requestAt_9 (by decide) (fun c_9 => ?_) (fun c_9 => ?_)
      · exact absurd (lt_yes (show k_mc n = Int32.toNatClampNeg (μ 16 23 0 (Int32.toNatClampNeg 2)) from r_mc hN) hn1) c_9
      ·
        refine ca_aload_nr h dX12_requestAt_12 rfl ?_
        refine ca_iload_n h dX12_requestAt_13 rfl ?_
        refine ca_bipush h dX12_requestAt_14 bk_8 ?_
        refine ca_vi h hG ml_X12_77 (c_X12_of hs (f := 8) (by omega) (by decide)) (ci := 12) rfl rfl rfl (hs.1 _ _ _ ⟨rfl, rfl⟩) rfl rfl rfl rfl ⟨Nat.le_refl _, Nat.le_refl _⟩ rfl dX12_requestAt_16 ?_
        refine ca_iload_n h dX12_requestAt_19 rfl ?_
        refine ca_icmp_eq (tgt := 26) h dX12_requestAt_20 (by decide) (fun c_20 => ?_) (fun c_20 => ?_)
        ·
          have hrj : n 3 j 8 = nI c := by have c9 := c_20; rw [r_8 hN hn1] at c9; exact c9
          have hj := hn1
          refine ca_iconst h dX12_requestAt_26 ik_0 ?_
          refine ca_istore h dX12_requestAt_27 rfl ?_
          refine ca_iconst h dX12_requestAt_29 ik_0 ?_
          refine ca_istore h dX12_requestAt_30 rfl ?_
          have loop_32 : ∀ (jj k : Nat), k + jj = k_mc n → ∀ (x4 : Int32) (e4 : x4 = kf (fun i r => if n 3 i 8 = n 3 j 8 ∧ k_cb n i j = true then r + 1 else r) k 0) (x5 : Int32) (e5 : x5 = nI k), ch_W X E 6 S μ 0 0 32 [(0, .ref (S.1 16 22 0)), (1, .int (nI c)), (2, .int x), (3, .int (nI j)), (4, .int x4), (5, .int x5)] [] := by
            intro jj
            induction jj with
            | zero =>
              intro k hn x4 e4 x5 e5
              have hn : k = k_mc n := by omega
              subst e4 e5
              refine ca_iload h dX12_requestAt_32 rfl ?_
              refine ca_aload_nr h dX12_requestAt_34 rfl ?_
              refine gs_X12_9 h hs ⟨rfl, rfl⟩ dX12_requestAt_35 ?_
              refine ca_iconst h dX12_requestAt_38 ik_2 ?_
              refine ca_iald h rfl (hs.1 _ _ _ ⟨rfl, rfl⟩) (vp_in_nI (n := 2) (N := 1302) (by decide) (by decide)) dX12_requestAt_39 ?_
              refine ca_icmp_ge (tgt := 87) h dX12_requestAt_40 (by decide) (fun c_40 => ?_) (fun c_40 => ?_)
              ·
                refine ca_iload h dX12_requestAt_87 rfl ?_
                refine ca_iload_n h dX12_requestAt_89 rfl ?_
                refine ca_icmp_ne (tgt := 95) h dX12_requestAt_90 (by decide) (fun c_90 => ?_) (fun c_90 => ?_)
                ·
                  refine ca_iinc h dX12_requestAt_95 rfl ik_1 rfl ?_
                  refine ca_goto (tgt := 2) h dX12_requestAt_98 (by decide) ?_
                  refine ca_pick [1, 2, 3, 0] rfl ?_
                  exact ih_2 (j + 1) (by omega) _ (nI_1 j) (by rw [hx, kq_no hnj (fun z => c_90 (by rw [hn]; exact (of_decide_eq_true z).2))])
                ·
                  refine ca_iload_n h dX12_requestAt_93 rfl ?_
                  refine ca_ireturn h hR rfl dX12_requestAt_94 ?_
                  have c9 := c_90
                  rw [hn] at c9
                  exact ⟨by rw [hx, kq_yes hnj (decide_eq_true ⟨hrj, c9⟩)], rfl, rfl⟩
              · exact absurd c_40 (lt_no (show k_mc n = Int32.toNatClampNeg (μ 16 23 0 (Int32.toNatClampNeg 2)) from r_mc hN) hn)
            | succ jj ih_32 =>
              intro k hn x4 e4 x5 e5
              have hn1 : k < k_mc n := by omega
              subst e4 e5
              refine ca_iload h dX12_requestAt_32 rfl ?_
              refine ca_aload_nr h dX12_requestAt_34 rfl ?_
              refine gs_X12_9 h hs ⟨rfl, rfl⟩ dX12_requestAt_35 ?_
              refine ca_iconst h dX12_requestAt_38 ik_2 ?_
              refine ca_iald h rfl (hs.1 _ _ _ ⟨rfl, rfl⟩) (vp_in_nI (n := 2) (N := 1302) (by decide) (by decide)) dX12_requestAt_39 ?_
              refine ca_icmp_ge (tgt := 87) h dX12_requestAt_40 (by decide) (fun c_40 => ?_) (fun c_40 => ?_)
              · exact absurd (lt_yes (show k_mc n = Int32.toNatClampNeg (μ 16 23 0 (Int32.toNatClampNeg 2)) from r_mc hN) hn1) c_40
              ·
                refine ca_iload h dX12_requestAt_43 rfl ?_
                refine ca_iload h dX12_requestAt_45 rfl ?_
                refine ca_iload_n h dX12_requestAt_47 rfl ?_
                refine ca_icmp_eq (tgt := 77) h dX12_requestAt_48 (by decide) (fun c_48 => ?_) (fun c_48 => ?_)
                ·
                  refine ca_iconst h dX12_requestAt_77 ik_0 ?_
                  refine ca_iadd h dX12_requestAt_78 ?_
                  refine ca_istore h dX12_requestAt_79 rfl ?_
                  refine ca_iinc h dX12_requestAt_81 rfl ik_1 rfl ?_
                  refine ca_goto (tgt := 32) h dX12_requestAt_84 (by decide) ?_
                  refine ca_pick [2, 3, 4, 5, 1, 0] rfl ?_
                  exact ih_32 (k + 1) (by omega) _ (by rw [Int32.add_zero]; refine (if_neg (fun z => ?_)).symm; have e8 := (nI_eq (by omega) (by omega)).mp c_48; rw [e8, k_cb_self] at z; exact absurd z.2 (by decide)) _ (nI_1 k)
                ·
                  refine ca_aload_nr h dX12_requestAt_51 rfl ?_
                  refine ca_iload h dX12_requestAt_52 rfl ?_
                  refine ca_bipush h dX12_requestAt_54 bk_8 ?_
                  refine ca_vi h hG ml_X12_77 (c_X12_of hs (f := 8) (by omega) (by decide)) (ci := 12) rfl rfl rfl (hs.1 _ _ _ ⟨rfl, rfl⟩) rfl rfl rfl rfl ⟨Nat.le_refl _, Nat.le_refl _⟩ rfl dX12_requestAt_56 ?_
                  refine ca_iload_n h dX12_requestAt_59 rfl ?_
                  refine ca_icmp_ne (tgt := 77) h dX12_requestAt_60 (by decide) (fun c_60 => ?_) (fun c_60 => ?_)
                  ·
                    refine ca_iconst h dX12_requestAt_77 ik_0 ?_
                    refine ca_iadd h dX12_requestAt_78 ?_
                    refine ca_istore h dX12_requestAt_79 rfl ?_
                    refine ca_iinc h dX12_requestAt_81 rfl ik_1 rfl ?_
                    refine ca_goto (tgt := 32) h dX12_requestAt_84 (by decide) ?_
                    refine ca_pick [2, 3, 4, 5, 1, 0] rfl ?_
                    exact ih_32 (k + 1) (by omega) _ (by rw [Int32.add_zero]; exact (if_neg (fun z => c_60 (by rw [r_8 hN hn1, z.1, hrj])) ).symm) _ (nI_1 k)
                  ·
                    have hrk : n 3 k 8 = nI c := by have c9 := c_60; rw [r_8 hN hn1] at c9; exact c9
                    refine ca_aload_nr h dX12_requestAt_63 rfl ?_
                    refine ca_iload h dX12_requestAt_64 rfl ?_
                    refine ca_iload_n h dX12_requestAt_66 rfl ?_
                    refine ca_vi h hG ml_X12_144 (c_X12_isAhead hs hN hn1 hj (by rw [hrk]; exact nI_nm1 (by omega)) (by rw [hrj]; exact nI_nm1 (by omega))) (ci := 12) rfl rfl rfl (hs.1 _ _ _ ⟨rfl, rfl⟩) rfl rfl rfl rfl ⟨Nat.le_refl _, Nat.le_refl _⟩ rfl dX12_requestAt_67 ?_
                    refine ca_if_eq (tgt := 77) h dX12_requestAt_70 (by decide) (fun c_70 => ?_) (fun c_70 => ?_)
                    ·
                      refine ca_iconst h dX12_requestAt_77 ik_0 ?_
                      refine ca_iadd h dX12_requestAt_78 ?_
                      refine ca_istore h dX12_requestAt_79 rfl ?_
                      refine ca_iinc h dX12_requestAt_81 rfl ik_1 rfl ?_
                      refine ca_goto (tgt := 32) h dX12_requestAt_84 (by decide) ?_
                      refine ca_pick [2, 3, 4, 5, 1, 0] rfl ?_
                      exact ih_32 (k + 1) (by omega) _ (by rw [Int32.add_zero]; exact (if_neg (fun z => bI_n0.mpr z.2 c_70)).symm) _ (nI_1 k)
                    ·
                      refine ca_iconst h dX12_requestAt_73 ik_1 ?_
                      refine ca_goto (tgt := 78) h dX12_requestAt_74 (by decide) ?_
                      refine ca_iadd h dX12_requestAt_78 ?_
                      refine ca_istore h dX12_requestAt_79 rfl ?_
                      refine ca_iinc h dX12_requestAt_81 rfl ik_1 rfl ?_
                      refine ca_goto (tgt := 32) h dX12_requestAt_84 (by decide) ?_
                      refine ca_pick [2, 3, 4, 5, 1, 0] rfl ?_
                      exact ih_32 (k + 1) (by omega) _ (if_pos ⟨by rw [hrk, hrj], bI_n0.mp c_70⟩).symm _ (nI_1 k)
          refine ca_pick [2, 3, 4, 5, 1, 0] rfl ?_
          exact loop_32 _ 0 (Nat.zero_add _) _ rfl _ rfl
        ·
          refine ca_goto (tgt := 95) h dX12_requestAt_23 (by decide) ?_
          refine ca_iinc h dX12_requestAt_95 rfl ik_1 rfl ?_
          refine ca_goto (tgt := 2) h dX12_requestAt_98 (by decide) ?_
          refine ca_pick [1, 2, 3, 0] rfl ?_
          exact ih_2 (j + 1) (by omega) _ (nI_1 j) (by rw [hx, kq_no hnj (fun z => c_20 (by rw [r_8 hN hn1]; exact (of_decide_eq_true z).1))])
  refine ca_pick [1, 2, 3, 0] rfl ?_
  exact loop_2 _ 0 (Nat.zero_add _) _ rfl rfl
