set_option maxHeartbeats 200000 in
theorem c_L_word {l : Launch} {E : ch_E} {S : ch_S} {μ : ch_M} {L : List Int32} {a : Nat} (hs : ch_Std E S) (hw19 : S.2.1 19 46 0) (hW : o_w L μ) (hL : L.length < 40000) (ha : a < ch_nS) (hch : ∀ i, i < k_len a → ∃ b, b < 256 ∧ k_chr a i = nI b) (hla : k_len a < 100) : ch_C E l yL_word cL_word 4 none 5 0 0 S μ [.ref (S.1 15 11 0), .ref (S.1 19 46 0), .ref (E.2.2.2.1 a)] (o_sy (L ++ p_w a) S μ) := by
  refine ch_enter rfl rfl ?_
  intro X hl0 h hG hR hnm
  have h : ch_H X E RL cL_word 4 := h
  show ch_W X E 4 S μ 0 0 0 [(0, .ref (S.1 15 11 0)), (1, .ref (S.1 19 46 0)), (2, .ref (E.2.2.2.1 a))] []
  refine ca_iconst h dL_word_0 ik_0 ?_
  refine ca_istore_n h dL_word_1 rfl ?_
  have loop_2 : ∀ (jj n : Nat), n + jj = k_len a → ∀ (μi : ch_M) (hWi : o_w (L ++ (List.range n).map (k_chr a)) μi) (hri : o_wr μ μi), ch_W X E 4 S μi 0 0 2 [(0, .ref (S.1 15 11 0)), (1, .ref (S.1 19 46 0)), (2, .ref (E.2.2.2.1 a)), (3, .int (nI n))] [] := by
    intro jj
    induction jj with
    | zero =>
      intro n hn μi hWi hri
      have hn : n = k_len a := by omega
      refine ca_iload_n h dL_word_2 rfl ?_
      refine ca_aload_nr h dL_word_3 rfl ?_
      refine ca_stx h ha hG ml_L_59 (c_J0_length_8abf5 ha) rfl rfl rfl rfl rfl ⟨Nat.le_refl _, Nat.le_refl _⟩ rfl dL_word_4 ?_
      refine ca_icmp_ge (tgt := 26) h dL_word_7 (by decide) (fun c_7 => ?_) (fun c_7 => ?_)
      ·
        refine ca_vreturn h hR dL_word_26 ?_
        subst hn
        exact ⟨rfl, rfl, hWi, hri⟩
      · exact absurd (show nI n < nI (k_len a) from c_7) (by rw [hn]; exact Int32.lt_irrefl)
    | succ jj ih_2 =>
      intro n hn μi hWi hri
      have hn1 : n < k_len a := by omega
      refine ca_iload_n h dL_word_2 rfl ?_
      refine ca_aload_nr h dL_word_3 rfl ?_
      refine ca_stx h ha hG ml_L_59 (c_J0_length_8abf5 ha) rfl rfl rfl rfl rfl ⟨Nat.le_refl _, Nat.le_refl _⟩ rfl dL_word_4 ?_
      refine ca_icmp_ge (tgt := 26) h dL_word_7 (by decide) (fun c_7 => ?_) (fun c_7 => ?_)
      · exact absurd ((nI_ltI (by omega) (by omega)).mpr hn1) c_7
      ·
        obtain ⟨b, hb, hcb⟩ := hch n hn1
        refine ca_aload_nr h dL_word_10 rfl ?_
        refine ca_aload_nr h dL_word_11 rfl ?_
        refine ca_aload_nr h dL_word_12 rfl ?_
        refine ca_iload_n h dL_word_13 rfl ?_
        refine ca_stx h ha hG ml_L_65 (c_J0_charAt_5068e ha hn1) rfl rfl rfl rfl rfl ⟨Nat.le_refl _, Nat.le_refl _⟩ rfl dL_word_14 ?_
        rw [hcb]
        refine oa_S h hG ms_L_14 (c_L_add hs hw19 hWi hb (by first | omega | (simp only [List.length_append, List.length_cons, List.length_nil, List.length_map, List.length_range, List.length_replicate]; omega))) rfl rfl rfl rfl ⟨Nat.le_refl _, Nat.le_refl _⟩ rfl dL_word_17 ?_
        intro v' S1 μ1 hp
        obtain ⟨rfl, hS1, hW1, hr1⟩ := hp
        replace hS1 := hS1.symm
        subst hS1
        refine ca_iinc h dL_word_20 rfl ik_1 rfl ?_
        rw [show nI n + 1 = nI (n + 1) from nI_1 _]
        refine ca_goto (tgt := 2) h dL_word_23 (by decide) ?_
        refine ca_pick [1, 2, 3, 0] rfl ?_
        refine ih_2 (n + 1) (by omega) μ1 ?_ (o_wr_tr hri hr1)
        rw [p_w_s a n hn1, ← List.append_assoc, hcb]
        exact hW1
  refine ca_pick [1, 2, 3, 0] rfl ?_
  exact loop_2 (k_len a) 0 (Nat.zero_add _) μ (by simpa using hW) (o_wr_0 μ)
set_option maxHeartbeats 200000 in
theorem c_L_numbers {l : Launch} {E : ch_E} {S : ch_S} {μ : ch_M} {L : List Int32} {k kd i N : Nat} {v : Nat → Nat} (hs : ch_Std E S) (hw19 : S.2.1 19 46 0) (hW : o_w L μ) (hL : L.length < 20000) (hkd : ch_kd kd = .inr (0, 0, N)) (hN : N ≤ 8) (hval : S.2.1 k kd i) (hk : k ≠ 15 ∧ k ≠ 19) (hv : ∀ t, t < N → v t < 1000 ∧ μ k kd i t = nI (v t)) : ch_C E l yL_numbers cL_numbers 7 none 5 0 0 S μ [.ref (S.1 15 11 0), .ref (S.1 19 46 0), .ref (S.1 k kd i)] (o_sy (L ++ p_ns ((List.range N).map v)) S μ) := by
  refine ch_enter rfl rfl ?_
  intro X hl0 h hG hR hnm
  have h : ch_H X E RL cL_numbers 7 := h
  show ch_W X E 7 S μ 0 0 0 [(0, .ref (S.1 15 11 0)), (1, .ref (S.1 19 46 0)), (2, .ref (S.1 k kd i))] []
  refine ca_aload_nr h dL_numbers_0 rfl ?_
  refine ca_astore_n h dL_numbers_1 rfl ?_
  refine ca_aload_nr h dL_numbers_2 rfl ?_
  refine oa_alen h hkd hval rfl dL_numbers_3 ?_
  refine ca_istore h dL_numbers_4 rfl ?_
  refine ca_iconst h dL_numbers_6 ik_0 ?_
  refine ca_istore h dL_numbers_7 rfl ?_
  have loop_9 : ∀ (jj n : Nat), n + jj = N → ∀ (μi : ch_M) (hWi : o_w (L ++ p_bd ((List.range n).map v)) μi) (hri : o_wr μ μi) (hli : (p_bd ((List.range n).map v)).length ≤ 4 * n), ch_W X E 7 S μi 0 0 9 [(0, .ref (S.1 15 11 0)), (1, .ref (S.1 19 46 0)), (3, .ref (S.1 k kd i)), (4, .int (nI N)), (5, .int (nI n))] [] := by
    intro jj
    induction jj with
    | zero =>
      intro n hn μi hWi hri hli
      have hn : n = N := by omega
      refine ca_iload h dL_numbers_9 rfl ?_
      refine ca_iload h dL_numbers_11 rfl ?_
      refine ca_icmp_ge (tgt := 42) h dL_numbers_13 (by decide) (fun c_13 => ?_) (fun c_13 => ?_)
      ·
        refine ca_aload_nr h dL_numbers_42 rfl ?_
        refine ca_aload_nr h dL_numbers_43 rfl ?_
        refine ca_bipush h dL_numbers_44 bk_59 ?_
        refine oa_S h hG ms_L_14 (c_L_add hs hw19 hWi (b := 59) (by decide) (by first | omega | (simp only [List.length_append, List.length_cons, List.length_nil, List.length_map, List.length_range, List.length_replicate]; omega))) rfl rfl rfl rfl ⟨Nat.le_refl _, Nat.le_refl _⟩ rfl dL_numbers_46 ?_
        intro v' S1 μ1 hp
        obtain ⟨rfl, hS1, hW1, hr1⟩ := hp
        replace hS1 := hS1.symm
        subst hS1
        refine ca_vreturn h hR dL_numbers_49 ?_
        subst hn
        exact ⟨rfl, rfl, by rw [p_ns_bd, ← List.append_assoc]; exact hW1, o_wr_tr hri hr1⟩
      · exact absurd (show nI n < nI N from c_13) (by rw [hn]; exact Int32.lt_irrefl)
    | succ jj ih_9 =>
      intro n hn μi hWi hri hli
      have hn1 : n < N := by omega
      refine ca_iload h dL_numbers_9 rfl ?_
      refine ca_iload h dL_numbers_11 rfl ?_
      refine ca_icmp_ge (tgt := 42) h dL_numbers_13 (by decide) (fun c_13 => ?_) (fun c_13 => ?_)
      · exact absurd ((nI_ltI (by omega) (by omega)).mpr hn1) c_13
      ·
        refine ca_aload_nr h dL_numbers_16 rfl ?_
        refine ca_iload h dL_numbers_17 rfl ?_
        refine oa_ialdN h (j := n) hkd hval rfl (by omega) (by omega) dL_numbers_19 ?_
        refine ca_top (y := nI (v n)) (by rw [hri.1 k hk.1 hk.2]; exact (hv n hn1).2) ?_
        refine ca_istore h dL_numbers_20 rfl ?_
        refine ca_aload_nr h dL_numbers_22 rfl ?_
        refine ca_aload_nr h dL_numbers_23 rfl ?_
        refine ca_bipush h dL_numbers_24 bk_32 ?_
        refine oa_S h hG ms_L_14 (c_L_add hs hw19 hWi (b := 32) (by decide) (by first | omega | (simp only [List.length_append, List.length_cons, List.length_nil, List.length_map, List.length_range, List.length_replicate]; omega))) rfl rfl rfl rfl ⟨Nat.le_refl _, Nat.le_refl _⟩ rfl dL_numbers_26 ?_
        intro v' S1 μ1 hp
        obtain ⟨rfl, hS1, hW1, hr1⟩ := hp
        replace hS1 := hS1.symm
        subst hS1
        refine ca_aload_nr h dL_numbers_29 rfl ?_
        refine ca_aload_nr h dL_numbers_30 rfl ?_
        refine ca_iload h dL_numbers_31 rfl ?_
        refine oa_S h hG ms_L_69 (c_L_number hs hw19 hW1 (by first | omega | (simp only [List.length_append, List.length_cons, List.length_nil, List.length_map, List.length_range, List.length_replicate]; omega)) (hv n hn1).1) rfl rfl rfl rfl ⟨Nat.le_refl _, Nat.le_refl _⟩ rfl dL_numbers_33 ?_
        intro v' S1 μ2 hp
        obtain ⟨rfl, hS1, hW2, hr2⟩ := hp
        replace hS1 := hS1.symm
        subst hS1
        refine ca_iinc h dL_numbers_36 rfl ik_1 rfl ?_
        rw [show nI n + 1 = nI (n + 1) from nI_1 _]
        refine ca_goto (tgt := 9) h dL_numbers_39 (by decide) ?_
        refine ca_pick [2, 3, 4, 5, 0] rfl ?_
        refine ih_9 (n + 1) (by omega) μ2 ?_ (o_wr_tr (o_wr_tr hri hr1) hr2) ?_
        · rw [p_rs, ← List.append_assoc, List.append_cons]
          exact hW2
        · have := p_D_len (v n)
          rw [p_rs, List.length_append, List.length_cons]
          omega
  refine ca_pick [3, 4, 2, 1, 0] rfl ?_
  exact loop_9 N 0 (Nat.zero_add _) μ (by show o_w (L ++ []) μ; rw [List.append_nil]; exact hW) (o_wr_0 μ) (Nat.zero_le _)
set_option maxHeartbeats 200000 in
theorem c_L_end {l : Launch} {E : ch_E} {S : ch_S} {μ : ch_M} {L : List Int32} (hs : ch_Std E S) (hw19 : S.2.1 19 46 0) (hW : o_w L μ) (hL : L.length ≤ 690) : ch_C E l yL_end cL_end 3 (some FieldType.int) 4 0 0 S μ [.ref (S.1 15 11 0), .ref (S.1 19 46 0)] (o_en L S μ) := by
  refine ch_enter rfl rfl ?_
  intro X hl0 h hG hR hnm
  have h : ch_H X E RL cL_end 3 := h
  show ch_W X E 3 S μ 0 0 0 [(0, .ref (S.1 15 11 0)), (1, .ref (S.1 19 46 0))] []
  refine ca_aload_nr h dL_end_0 rfl ?_
  refine ca_iconst h dL_end_1 ik_5 ?_
  refine oa_iald h (j := 5) rfl (by assumption) rfl (by omega) (by decide) dL_end_2 ?_
  refine ca_top (y := nI L.length) hW.2.1 ?_
  refine ca_istore_n h dL_end_3 rfl ?_
  have loop_4 : ∀ (jj n : Nat), n + jj = ((20 - L.length % 20) % 20) → ∀ (μi : ch_M) (hWi : o_w (L ++ List.replicate n (32 : Int32)) μi) (hri : o_wr μ μi), ch_W X E 3 S μi 0 0 4 [(0, .ref (S.1 15 11 0)), (1, .ref (S.1 19 46 0)), (2, .int (nI L.length))] [] := by
    intro jj
    induction jj with
    | zero =>
      intro n hn μi hWi hri
      have hn : n = ((20 - L.length % 20) % 20) := by omega
      have el : (L ++ List.replicate n (32 : Int32)).length = L.length + n := by simp
      refine ca_aload_nr h dL_end_4 rfl ?_
      refine ca_iconst h dL_end_5 ik_5 ?_
      refine oa_iald h (j := 5) rfl (by assumption) rfl (by omega) (by decide) dL_end_6 ?_
      refine ca_top (y := nI (L.length + n)) (by rw [hWi.2.1, el]) ?_
      refine ca_bipush h dL_end_7 bk_20 ?_
      refine ca_irem h dL_end_9 (by decide) ?_
      refine ca_top (y := nI ((L.length + n) % 20)) (show nI (L.length + n) - nI (L.length + n) / nI 20 * nI 20 = _ from nI_mod (by omega) (by decide) (by decide)) ?_
      refine ca_if_eq (tgt := 23) h dL_end_10 (by decide) (fun c_10 => ?_) (fun c_10 => ?_)
      ·
        refine ca_aload_nr h dL_end_23 rfl ?_
        refine ca_iconst h dL_end_24 ik_5 ?_
        refine ca_iconst h dL_end_25 ik_0 ?_
        refine oa_iast h (j := 5) rfl (by assumption) rfl (by omega) (by decide) dL_end_26 ?_
        refine ca_iload_n h dL_end_27 rfl ?_
        refine ca_ireturn h hR rfl dL_end_28 ?_
        obtain ⟨K, k1, k2, k3, k4, k5⟩ := hWi.2.2.2
        rw [el] at k2 k3
        have eK : 20 * K = L.length + n := by omega
        have h15 : ch_st μi 19 46 0 5 0 15 = μi 15 := by unfold ch_st; exact up_n (by decide)
        exact ⟨rfl, rfl, o_wr_st hri, 20 * K, by omega, by omega, by rw [h15]; exact k4, fun i hi => by rw [h15, k5 i (by omega), gd_l _ _ hi]⟩
      · exact absurd (by rw [hn, show (L.length + (20 - L.length % 20) % 20) % 20 = 0 by omega]; rfl) c_10
    | succ jj ih_4 =>
      intro n hn μi hWi hri
      have hn1 : n < ((20 - L.length % 20) % 20) := by omega
      have el : (L ++ List.replicate n (32 : Int32)).length = L.length + n := by simp
      refine ca_aload_nr h dL_end_4 rfl ?_
      refine ca_iconst h dL_end_5 ik_5 ?_
      refine oa_iald h (j := 5) rfl (by assumption) rfl (by omega) (by decide) dL_end_6 ?_
      refine ca_top (y := nI (L.length + n)) (by rw [hWi.2.1, el]) ?_
      refine ca_bipush h dL_end_7 bk_20 ?_
      refine ca_irem h dL_end_9 (by decide) ?_
      refine ca_top (y := nI ((L.length + n) % 20)) (show nI (L.length + n) - nI (L.length + n) / nI 20 * nI 20 = _ from nI_mod (by omega) (by decide) (by decide)) ?_
      refine ca_if_eq (tgt := 23) h dL_end_10 (by decide) (fun c_10 => ?_) (fun c_10 => ?_)
      · exact absurd (nI_inj (by omega) (by decide) (show nI ((L.length + n) % 20) = nI 0 from c_10)) (by omega)
      ·
        refine ca_aload_nr h dL_end_13 rfl ?_
        refine ca_aload_nr h dL_end_14 rfl ?_
        refine ca_bipush h dL_end_15 bk_32 ?_
        refine oa_S h hG ms_L_14 (c_L_add hs hw19 hWi (b := 32) (by decide) (by rw [el]; omega)) rfl rfl rfl rfl ⟨Nat.le_refl _, Nat.le_refl _⟩ rfl dL_end_17 ?_
        intro v' S1 μ1 hp
        obtain ⟨rfl, hS1, hW1, hr1⟩ := hp
        replace hS1 := hS1.symm
        subst hS1
        refine ca_goto (tgt := 4) h dL_end_20 (by decide) ?_
        refine ca_pick [0, 1, 2] rfl ?_
        refine ih_4 (n + 1) (by omega) μ1 ?_ (o_wr_tr hri hr1)
        rw [List.replicate_succ', ← List.append_assoc]
        exact hW1
  refine ca_pick [1, 2, 0] rfl ?_
  exact loop_4 ((20 - L.length % 20) % 20) 0 (Nat.zero_add _) μ (by show o_w (L ++ []) μ; rw [List.append_nil]; exact hW) (o_wr_0 μ)
