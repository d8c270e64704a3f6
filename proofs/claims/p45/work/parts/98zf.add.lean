/-- said: L' -/
def o_sy (L' : List Int32) (S : ch_S) (μ : ch_M) : Option Value → ch_S → ch_M → Prop := fun v' S' μ' => v' = none ∧ S' = S ∧ o_w L' μ' ∧ o_wr μ μ'
set_option maxHeartbeats 400000 in
theorem c_addF {X : ch_X} {E : ch_E} {L : List Int32} {b : Nat} {S S0 : ch_S} {μ μ0 : ch_M} (h : ch_H X E RL cL_add 4) (hG : ch_G X 3 0 0) (hR : ch_R X E none 0 0 (o_sy (L ++ [nI b]) S μ0)) (hs : ch_Std E S) (hw19 : S.2.1 19 46 0) (hW : o_w L μ0) (hb : b < 256) (hL : L.length < 100000) (e : μ = o_ad L b μ0) (hm : (L.length + 1) % 20 = 0) (hK : 700 ≤ L.length) : ch_W X E 4 S μ 0 0 43 [(0, .ref (S.1 15 11 0)), (1, .ref (S.1 19 46 0)), (2, .int (nI b))] [] := by
  have g5 : μ 19 46 0 5 = nI (L.length + 1) := by rw [e]; exact o_ad_5
  have gw : ∀ j i, j < 5 → i < 4 → p_B (μ 19 46 0 j) i = (L ++ [nI b]).getD (20 * (L.length / 20) + (4 * j + i)) 0 := fun j i hj hi => by rw [e]; exact o_ad_w hW hb hj hi
  have g15 : μ 15 = μ0 15 := by rw [e]; exact o_ad_15
  have gr : o_wr μ0 μ := by rw [e]; exact o_ad_wr
  obtain ⟨K, k1, k2, k3, k4, k5⟩ := hW.2.2.2
  have hK35 : K = 35 := by omega
  subst hK35
  refine ca_aload_nr h dL_add_43 rfl ?_
  refine ca_aload_nr h dL_add_44 rfl ?_
  refine ca_iconst h dL_add_45 ik_0 ?_
  refine oa_iald h (j := 0) rfl (by assumption) rfl (by omega) (by decide) dL_add_46 ?_
  refine ca_aload_nr h dL_add_47 rfl ?_
  refine ca_iconst h dL_add_48 ik_1 ?_
  refine oa_iald h (j := 1) rfl (by assumption) rfl (by omega) (by decide) dL_add_49 ?_
  refine ca_aload_nr h dL_add_50 rfl ?_
  refine ca_iconst h dL_add_51 ik_2 ?_
  refine oa_iald h (j := 2) rfl (by assumption) rfl (by omega) (by decide) dL_add_52 ?_
  refine ca_aload_nr h dL_add_53 rfl ?_
  refine ca_iconst h dL_add_54 ik_3 ?_
  refine oa_iald h (j := 3) rfl (by assumption) rfl (by omega) (by decide) dL_add_55 ?_
  refine ca_aload_nr h dL_add_56 rfl ?_
  refine ca_iconst h dL_add_57 ik_4 ?_
  refine oa_iald h (j := 4) rfl (by assumption) rfl (by omega) (by decide) dL_add_58 ?_
  refine oa_v h hG ml_L_8 (c_X11_feedF hs (L := 20 * 35) (by rw [g15]; exact k4) (by omega) (by omega)) (ci := 11) rfl rfl rfl (hs.1 _ _ _ ⟨rfl, rfl⟩) rfl rfl rfl rfl ⟨Nat.le_refl _, Nat.le_refl _⟩ rfl dL_add_59 ?_
  refine ca_pop h dL_add_62 rfl ?_
  refine ca_iconst h dL_add_63 ik_0 ?_
  refine ca_istore_n h dL_add_64 rfl ?_
  have loop_65 : ∀ (jj n : Nat), n + jj = 5 → ∀ (μi : ch_M) (hz : o_zz n μ μi), ch_W X E 4 S μi 0 0 65 [(0, .ref (S.1 15 11 0)), (1, .ref (S.1 19 46 0)), (2, .int (nI b)), (3, .int (nI n))] [] := by
    intro jj
    induction jj with
    | zero =>
      intro n hn μi hz
      have hn : n = 5 := by omega
      have h5 : n = 5 := by omega
      subst h5
      refine ca_iload_n h dL_add_65 rfl ?_
      refine ca_iconst h dL_add_66 ik_5 ?_
      refine ca_icmp_ge (tgt := 80) h dL_add_67 (by decide) (fun c_67 => ?_) (fun c_67 => ?_)
      ·
        refine ca_vreturn h hR dL_add_80 ?_
        exact ⟨rfl, rfl, o_ad_B hW hb hm hz g5 (K := 35) (by omega) (Or.inl rfl) (by omega) (by rw [g15]; exact k4) (fun i hi => by rw [g15, gd_l _ _ (by omega)]; exact k5 i hi), o_zz_wr hz gr⟩
      · exact absurd (show nI 5 < 5 from c_67) (by decide)
    | succ jj ih_65 =>
      intro n hn μi hz
      have hn1 : n < 5 := by omega
      refine ca_iload_n h dL_add_65 rfl ?_
      refine ca_iconst h dL_add_66 ik_5 ?_
      refine ca_icmp_ge (tgt := 80) h dL_add_67 (by decide) (fun c_67 => ?_) (fun c_67 => ?_)
      · exact absurd (nI_lt (b := 5) hn1 (by decide)) c_67
      ·
        refine ca_aload_nr h dL_add_70 rfl ?_
        refine ca_iload_n h dL_add_71 rfl ?_
        refine ca_iconst h dL_add_72 ik_0 ?_
        refine oa_iast h (j := n) rfl (by assumption) rfl (by omega) (by decide) dL_add_73 ?_
        refine ca_iinc h dL_add_74 rfl ik_1 rfl ?_
        rw [show nI n + 1 = nI (n + 1) from nI_1 _]
        refine ca_goto (tgt := 65) h dL_add_77 (by decide) ?_
        refine ca_pick [1, 2, 3, 0] rfl ?_
        exact ih_65 (n + 1) (by omega) _ (o_zz_s hz)
  refine ca_pick [1, 2, 3, 0] rfl ?_
  exact loop_65 5 0 (by omega) μ (o_zz_0 _)
set_option maxHeartbeats 400000 in
theorem c_addK {X : ch_X} {E : ch_E} {L : List Int32} {b : Nat} {S S0 : ch_S} {μ μ0 : ch_M} (h : ch_H X E RL cL_add 4) (hG : ch_G X 3 0 0) (hR : ch_R X E none 0 0 (o_sy (L ++ [nI b]) S μ0)) (hs : ch_Std E S) (hw19 : S.2.1 19 46 0) (hW : o_w L μ0) (hb : b < 256) (hL : L.length < 100000) (e : μ = o_ad L b μ0) (hm : (L.length + 1) % 20 = 0) (hK : ¬ 700 ≤ L.length) : ch_W X E 4 S μ 0 0 43 [(0, .ref (S.1 15 11 0)), (1, .ref (S.1 19 46 0)), (2, .int (nI b))] [] := by
  have g5 : μ 19 46 0 5 = nI (L.length + 1) := by rw [e]; exact o_ad_5
  have gw : ∀ j i, j < 5 → i < 4 → p_B (μ 19 46 0 j) i = (L ++ [nI b]).getD (20 * (L.length / 20) + (4 * j + i)) 0 := fun j i hj hi => by rw [e]; exact o_ad_w hW hb hj hi
  have g15 : μ 15 = μ0 15 := by rw [e]; exact o_ad_15
  have gr : o_wr μ0 μ := by rw [e]; exact o_ad_wr
  obtain ⟨K, k1, k2, k3, k4, k5⟩ := hW.2.2.2
  have hK35 : K = L.length / 20 := by omega
  subst hK35
  refine ca_aload_nr h dL_add_43 rfl ?_
  refine ca_aload_nr h dL_add_44 rfl ?_
  refine ca_iconst h dL_add_45 ik_0 ?_
  refine oa_iald h (j := 0) rfl (by assumption) rfl (by omega) (by decide) dL_add_46 ?_
  refine ca_aload_nr h dL_add_47 rfl ?_
  refine ca_iconst h dL_add_48 ik_1 ?_
  refine oa_iald h (j := 1) rfl (by assumption) rfl (by omega) (by decide) dL_add_49 ?_
  refine ca_aload_nr h dL_add_50 rfl ?_
  refine ca_iconst h dL_add_51 ik_2 ?_
  refine oa_iald h (j := 2) rfl (by assumption) rfl (by omega) (by decide) dL_add_52 ?_
  refine ca_aload_nr h dL_add_53 rfl ?_
  refine ca_iconst h dL_add_54 ik_3 ?_
  refine oa_iald h (j := 3) rfl (by assumption) rfl (by omega) (by decide) dL_add_55 ?_
  refine ca_aload_nr h dL_add_56 rfl ?_
  refine ca_iconst h dL_add_57 ik_4 ?_
  refine oa_iald h (j := 4) rfl (by assumption) rfl (by omega) (by decide) dL_add_58 ?_
  refine oa_v h hG ml_L_8 (c_X11_feed hs (L := 20 * (L.length / 20)) (by rw [g15]; exact k4) (by omega)) (ci := 11) rfl rfl rfl (hs.1 _ _ _ ⟨rfl, rfl⟩) rfl rfl rfl rfl ⟨Nat.le_refl _, Nat.le_refl _⟩ rfl dL_add_59 ?_
  obtain ⟨f1, f2, f3⟩ := k_fd_at (q := μ 15) (W := μ 19 46 0) (p := 20 * (L.length / 20)) (by rw [g15]; exact k4) (by omega)
  generalize hμ1 : up μ 15 (k_fd (μ 15) (μ 19 46 0 0) (μ 19 46 0 1) (μ 19 46 0 2) (μ 19 46 0 3) (μ 19 46 0 4)) = μ1
  have q15 : μ1 15 = k_fd (μ 15) (μ 19 46 0 0) (μ 19 46 0 1) (μ 19 46 0 2) (μ 19 46 0 3) (μ 19 46 0 4) := by rw [← hμ1, up_s]
  have qk : ∀ k, k ≠ 15 → μ1 k = μ k := fun k h => by rw [← hμ1, up_n h]
  rw [← q15] at f1 f2 f3
  have gr1 : o_wr μ0 μ1 := o_wr_tr gr ⟨fun k a b => qk k a, fun kd a b => (by funext i j; exact f2 kd i j (by omega) (by omega)), fun j a => f2 12 0 j (by omega) (by omega), fun kd a => by rw [qk 19 (by decide)]⟩
  refine ca_pop h dL_add_62 rfl ?_
  refine ca_iconst h dL_add_63 ik_0 ?_
  refine ca_istore_n h dL_add_64 rfl ?_
  have loop_65 : ∀ (jj n : Nat), n + jj = 5 → ∀ (μi : ch_M) (hz : o_zz n μ1 μi), ch_W X E 4 S μi 0 0 65 [(0, .ref (S.1 15 11 0)), (1, .ref (S.1 19 46 0)), (2, .int (nI b)), (3, .int (nI n))] [] := by
    intro jj
    induction jj with
    | zero =>
      intro n hn μi hz
      have hn : n = 5 := by omega
      have h5 : n = 5 := by omega
      subst h5
      refine ca_iload_n h dL_add_65 rfl ?_
      refine ca_iconst h dL_add_66 ik_5 ?_
      refine ca_icmp_ge (tgt := 80) h dL_add_67 (by decide) (fun c_67 => ?_) (fun c_67 => ?_)
      ·
        refine ca_vreturn h hR dL_add_80 ?_
        refine ⟨rfl, rfl, o_ad_B hW hb hm hz (by rw [qk 19 (by decide)]; exact g5) (K := L.length / 20 + 1) (by omega) (Or.inr (by omega)) (by omega) (by rw [f1]; congr 1) (fun i hi => ?_), o_zz_wr hz gr1⟩
        by_cases g : i < 20 * (L.length / 20)
        · rw [f2 13 0 i (by omega) (by omega), g15, gd_l _ _ (by omega)]; exact k5 i g
        · have := f3 ((i - 20 * (L.length / 20)) / 4) ((i - 20 * (L.length / 20)) % 4) (by omega) (by omega)
          rw [gw _ _ (by omega) (by omega), show 20 * (L.length / 20) + (4 * ((i - 20 * (L.length / 20)) / 4) + (i - 20 * (L.length / 20)) % 4) = i by omega] at this
          exact this
      · exact absurd (show nI 5 < 5 from c_67) (by decide)
    | succ jj ih_65 =>
      intro n hn μi hz
      have hn1 : n < 5 := by omega
      refine ca_iload_n h dL_add_65 rfl ?_
      refine ca_iconst h dL_add_66 ik_5 ?_
      refine ca_icmp_ge (tgt := 80) h dL_add_67 (by decide) (fun c_67 => ?_) (fun c_67 => ?_)
      · exact absurd (nI_lt (b := 5) hn1 (by decide)) c_67
      ·
        refine ca_aload_nr h dL_add_70 rfl ?_
        refine ca_iload_n h dL_add_71 rfl ?_
        refine ca_iconst h dL_add_72 ik_0 ?_
        refine oa_iast h (j := n) rfl (by assumption) rfl (by omega) (by decide) dL_add_73 ?_
        refine ca_iinc h dL_add_74 rfl ik_1 rfl ?_
        rw [show nI n + 1 = nI (n + 1) from nI_1 _]
        refine ca_goto (tgt := 65) h dL_add_77 (by decide) ?_
        refine ca_pick [1, 2, 3, 0] rfl ?_
        exact ih_65 (n + 1) (by omega) _ (o_zz_s hz)
  refine ca_pick [1, 2, 3, 0] rfl ?_
  exact loop_65 5 0 (by omega) μ1 (o_zz_0 _)
set_option maxHeartbeats 400000 in
theorem c_L_add {l : Launch} {E : ch_E} {S : ch_S} {μ : ch_M} {L : List Int32} {b : Nat} (hs : ch_Std E S) (hw19 : S.2.1 19 46 0) (hW : o_w L μ) (hb : b < 256) (hL : L.length < 100000) : ch_C E l yL_add cL_add 4 none 3 0 0 S μ [.ref (S.1 15 11 0), .ref (S.1 19 46 0), .int (nI b)] (o_sy (L ++ [nI b]) S μ) := by
  refine ch_enter rfl rfl ?_
  intro X hl0 h hG hR hnm
  have h : ch_H X E RL cL_add 4 := h
  show ch_W X E 4 S μ 0 0 0 [(0, .ref (S.1 15 11 0)), (1, .ref (S.1 19 46 0)), (2, .int (nI b))] []
  refine ca_aload_nr h dL_add_0 rfl ?_
  refine ca_aload_nr h dL_add_1 rfl ?_
  refine ca_iconst h dL_add_2 ik_5 ?_
  refine oa_iald h (j := 5) rfl (by assumption) rfl (by omega) (by decide) dL_add_3 ?_
  refine ca_top (y := nI L.length) hW.2.1 ?_
  refine ca_bipush h dL_add_4 bk_20 ?_
  refine ca_irem h dL_add_6 (by decide) ?_
  refine ca_top (y := nI (L.length % 20)) (show nI L.length - nI L.length / nI 20 * nI 20 = _ from nI_mod (by omega) (by decide) (by decide)) ?_
  refine ca_iconst h dL_add_7 ik_4 ?_
  refine ca_idiv h dL_add_8 (by decide) ?_
  refine ca_top (y := nI (L.length % 20 / 4)) (show nI (L.length % 20) / nI 4 = _ from pk_div (by omega) (by decide) (by decide)) ?_
  refine ca_dup2 h dL_add_9 rfl rfl ?_
  refine oa_iald h (j := (L.length % 20 / 4)) rfl (by assumption) rfl (by omega) (by decide) dL_add_10 ?_
  refine ca_iload_n h dL_add_11 rfl ?_
  refine ca_bipush h dL_add_12 bk_24 ?_
  refine ca_bipush h dL_add_14 bk_8 ?_
  refine ca_aload_nr h dL_add_16 rfl ?_
  refine ca_iconst h dL_add_17 ik_5 ?_
  refine oa_iald h (j := 5) rfl (by assumption) rfl (by omega) (by decide) dL_add_18 ?_
  refine ca_top (y := nI L.length) hW.2.1 ?_
  refine ca_iconst h dL_add_19 ik_4 ?_
  refine ca_irem h dL_add_20 (by decide) ?_
  refine ca_top (y := nI (L.length % 4)) (show nI L.length - nI L.length / nI 4 * nI 4 = _ from nI_mod (by omega) (by decide) (by decide)) ?_
  refine ca_imul h dL_add_21 ?_
  refine ca_top (y := nI (8 * (L.length % 4))) (show nI 8 * nI (L.length % 4) = _ from pk_mul ..) ?_
  refine ca_isub h dL_add_22 ?_
  refine ca_top (y := nI (24 - 8 * (L.length % 4))) (show nI 24 - nI (8 * (L.length % 4)) = _ from pk_sub (by omega)) ?_
  refine ca_ishl h dL_add_23 ?_
  refine ca_ior h dL_add_24 ?_
  refine oa_iast h (j := (L.length % 20 / 4)) rfl (by assumption) rfl (by omega) (by decide) dL_add_25 ?_
  refine ca_aload_nr h dL_add_26 rfl ?_
  refine ca_iconst h dL_add_27 ik_5 ?_
  refine ca_dup2 h dL_add_28 rfl rfl ?_
  refine oa_iald h (j := 5) rfl (by assumption) rfl (by omega) (by decide) dL_add_29 ?_
  refine ca_top (y := nI L.length) (by rw [ch_st_at, if_neg (by omega)]; exact hW.2.1) ?_
  refine ca_iconst h dL_add_30 ik_1 ?_
  refine ca_iadd h dL_add_31 ?_
  refine ca_top (y := nI (L.length + 1)) (nI_1 _) ?_
  refine oa_iast h (j := 5) rfl (by assumption) rfl (by omega) (by decide) dL_add_32 ?_
  show ch_W X E 4 S (o_ad L b μ) _ _ _ _ _
  refine ca_aload_nr h dL_add_33 rfl ?_
  refine ca_iconst h dL_add_34 ik_5 ?_
  refine oa_iald h (j := 5) rfl (by assumption) rfl (by omega) (by decide) dL_add_35 ?_
  refine ca_top (y := nI (L.length + 1)) o_ad_5 ?_
  refine ca_bipush h dL_add_36 bk_20 ?_
  refine ca_irem h dL_add_38 (by decide) ?_
  refine ca_top (y := nI ((L.length + 1) % 20)) (show nI (L.length + 1) - nI (L.length + 1) / nI 20 * nI 20 = _ from nI_mod (by omega) (by decide) (by decide)) ?_
  refine ca_if_eq (tgt := 43) h dL_add_39 (by decide) (fun c_39 => ?_) (fun c_39 => ?_)
  ·
    have hm : (L.length + 1) % 20 = 0 := by
      have := congrArg Int32.toNatClampNeg (show nI ((L.length + 1) % 20) = nI 0 from c_39)
      rw [nI_clamp (by omega), nI_clamp (by decide)] at this
      exact this
    by_cases hK : 700 ≤ L.length
    · exact c_addF (S0 := S) h hG hR hs hw19 hW hb hL rfl hm hK
    · exact c_addK (S0 := S) h hG hR hs hw19 hW hb hL rfl hm hK
  ·
    refine ca_vreturn h hR dL_add_42 ?_
    exact ⟨rfl, rfl, o_ad_A hW hb (fun z => c_39 (by rw [z]; rfl)), o_ad_wr⟩
