def p_Tb (E : ch_E) (hy : Nat → Nat → Int32) (a b : Nat) : List (Nat × List Nat) := p_cs (a_cv E) (a_C E) ++ (p_pa hy (a_C E) a ++ p_pb hy a b).map (p_rl hy)
theorem p_Tb_n {E : ch_E} {hy : Nat → Nat → Int32} {a b : Nat} (h : hy a b < 0) : p_Tb E hy a (b + 1) = p_Tb E hy a b := by
  unfold p_Tb
  show _ ++ (_ ++ (p_pb hy a b ++ (if hy a b < 0 then [] else [(a, b)]))).map _ = _
  rw [if_pos h, List.append_nil]
theorem p_Tb_s {E : ch_E} {hy : Nat → Nat → Int32} {a b d : Nat} (ed : hy a b = nI d) (hd : d ≤ 30) : p_tx (p_Tb E hy a (b + 1)) = (p_tx (p_Tb E hy a b) ++ p_w 2) ++ p_ns ((List.range 3).map (fun t => if t = 0 then a else if t = 1 then b else d)) := by
  unfold p_Tb
  show p_tx (_ ++ (_ ++ (p_pb hy a b ++ (if hy a b < 0 then [] else [(a, b)]))).map _) = _
  rw [if_neg (by rw [ed]; exact nI_pos (by omega)), ← List.append_assoc (p_pa hy (a_C E) a), List.map_append, ← List.append_assoc (p_cs (a_cv E) (a_C E)), p_tx_app (p_cs (a_cv E) (a_C E) ++ _)]
  show _ ++ p_tx [p_rl hy (a, b)] = _
  rw [p_tx_1, ← List.append_assoc]
  unfold p_rl
  dsimp only
  rw [ed, nI_clamp (by omega)]
  rfl
theorem p_Tb_0 (E : ch_E) (hy : Nat → Nat → Int32) (a : Nat) : p_Tb E hy (a + 1) 0 = p_Tb E hy a (a_C E) := by
  unfold p_Tb
  show _ ++ (p_pa hy (a_C E) a ++ p_pb hy a (a_C E) ++ []).map _ = _
  rw [List.append_nil]
theorem p_Tb_C (E : ch_E) (hy : Nat → Nat → Int32) : p_Tb E hy (a_C E) 0 = p_T1 E hy := by
  unfold p_Tb p_T1
  show _ ++ (p_pa hy (a_C E) (a_C E) ++ []).map _ = _
  rw [List.append_nil]
theorem p_Tb_00 (E : ch_E) (hy : Nat → Nat → Int32) : p_Tb E hy 0 0 = p_cs (a_cv E) (a_C E) := by
  unfold p_Tb
  show _ ++ ([] ++ []).map _ = _
  simp
theorem p_cs_s (cv : Nat → Nat → Nat) (c : Nat) : p_tx (p_cs cv (c + 1)) = (p_tx (p_cs cv c) ++ p_w 1) ++ p_ns ((List.range 8).map (cv c)) := by
  show p_tx (p_cs cv c ++ [(1, p_v8 (cv c))]) = _
  rw [p_tx_app, p_tx_1, ← List.append_assoc]
  rfl
set_option maxHeartbeats 600000 in
theorem c_tellR {X : ch_X} {E : ch_E} {hy : Nat → Nat → Int32} {sv : Nat → Nat} {S S0 : ch_S} {μ μ0 : ch_M} (h : ch_H X E RL cL_tell 5) (hG : ch_G X 9 27 83) (hR : ch_R X E (some FieldType.int) 27 83 (o_TP E S0 μ0)) (hs : ch_Std E S) (hw19 : S.2.1 19 46 0) (hD : o_dS E (a_C E) hy sv S μ S μ) (hk : o_hyk (a_C E) hy) (h6 : p_b6 sv) (hft : o_ft S0 μ0 S μ) (h8 : k_c8 (μ0 0) ∧ k_c8 (μ0 1) ∧ k_m0 (μ0 1)) (hW : o_w (p_tx (p_cs (a_cv E) (a_C E))) μ) (hT : (p_tx (p_cs (a_cv E) (a_C E))).length ≤ 200) : ch_W X E 5 S μ 0 0 34 [(0, .ref (S.1 15 11 0)), (1, .ref (S.1 19 46 0)), (2, .ref (S.1 16 22 0))] [] := by
  have hC5 := a_C5 E
  obtain ⟨Sa, rfl⟩ : ∃ z, z = S := ⟨_, rfl⟩
  refine ca_iconst h dL_tell_34 ik_0 ?_
  refine ca_istore_n h dL_tell_35 rfl ?_
  have loop_36 : ∀ (jj a : Nat), a + jj = a_C E → ∀ (S : ch_S) (μi : ch_M) (hs : ch_Std E S) (hw19 : S.2.1 19 46 0) (hD : o_dS E (a_C E) hy sv S μi S μi) (hft : o_ft S0 μ0 S μi) (hW : o_w (p_tx (p_Tb E hy a 0)) μi) (hT : (p_tx (p_Tb E hy a 0)).length ≤ 200 + 30 * (5 * a + 0)), ch_W X E 5 S μi (5 * a) (15 * a) 36 [(0, .ref (S.1 15 11 0)), (1, .ref (S.1 19 46 0)), (2, .ref (S.1 16 22 0)), (3, .int (nI a))] [] := by
    intro jj
    induction jj with
    | zero =>
      intro a hn S μi hs hw19 hD hft hW hT
      have hn : a = a_C E := by omega
      refine ca_iload_n h dL_tell_36 rfl ?_
      refine ca_aload_nr h dL_tell_37 rfl ?_
      refine gi_L_31 h (hD.2.1.1 _ _ _ (by show _ ∧ _; omega)) dL_tell_38 ?_
      refine ca_top (y := nI (a_C E)) hD.2.2.1.1 ?_
      refine ca_icmp_ge (tgt := 119) h dL_tell_41 (by decide) (fun c_41 => ?_) (fun c_41 => ?_)
      ·
        rw [hn, p_Tb_C] at hW hT
        refine ca_widen (k := 25) (n := 75) (by omega) (by omega) ?_
        exact ca_pick [0, 1, 2] rfl (c_tellS h hG hR hs hw19 hD hk h6 hft h8 hW (by omega))
      · exact absurd (show nI a < nI (a_C E) from c_41) (by rw [hn]; exact Int32.lt_irrefl)
    | succ jj ih_36 =>
      intro a hn S μi hs hw19 hD hft hW hT
      have hn1 : a < a_C E := by omega
      refine ca_iload_n h dL_tell_36 rfl ?_
      refine ca_aload_nr h dL_tell_37 rfl ?_
      refine gi_L_31 h (hD.2.1.1 _ _ _ (by show _ ∧ _; omega)) dL_tell_38 ?_
      refine ca_top (y := nI (a_C E)) hD.2.2.1.1 ?_
      refine ca_icmp_ge (tgt := 119) h dL_tell_41 (by decide) (fun c_41 => ?_) (fun c_41 => ?_)
      · exact absurd ((nI_ltI (by omega) (by omega)).mpr hn1) c_41
      ·
        refine ca_iconst h dL_tell_44 ik_0 ?_
        refine ca_istore h dL_tell_45 rfl ?_
        have loop_47 : ∀ (jj b : Nat), b + jj = a_C E → ∀ (S : ch_S) (μj : ch_M) (hs : ch_Std E S) (hw19 : S.2.1 19 46 0) (hD : o_dS E (a_C E) hy sv S μj S μj) (hft : o_ft S0 μ0 S μj) (hW : o_w (p_tx (p_Tb E hy a b)) μj) (hT : (p_tx (p_Tb E hy a b)).length ≤ 200 + 30 * (5 * a + b)), ch_W X E 5 S μj (5 * a + b) (3 * (5 * a + b)) 47 [(0, .ref (S.1 15 11 0)), (1, .ref (S.1 19 46 0)), (2, .ref (S.1 16 22 0)), (3, .int (nI a)), (4, .int (nI b))] [] := by
          intro jj
          induction jj with
          | zero =>
            intro b hn S μj hs hw19 hD hft hW hT
            have hn : b = a_C E := by omega
            refine ca_iload h dL_tell_47 rfl ?_
            refine ca_aload_nr h dL_tell_49 rfl ?_
            refine gi_L_31 h (hD.2.1.1 _ _ _ (by show _ ∧ _; omega)) dL_tell_50 ?_
            refine ca_top (y := nI (a_C E)) hD.2.2.1.1 ?_
            refine ca_icmp_ge (tgt := 113) h dL_tell_53 (by decide) (fun c_53 => ?_) (fun c_53 => ?_)
            ·
              refine ca_iinc h dL_tell_113 rfl ik_1 rfl ?_
              rw [show nI a + 1 = nI (a + 1) from nI_1 _]
              refine ca_goto (tgt := 36) h dL_tell_116 (by decide) ?_
              refine ca_pick [1, 2, 3, 0] rfl ?_
              refine ca_widen (k := 5 * (a + 1)) (n := 15 * (a + 1)) (by omega) (by omega) ?_
              rw [hn] at hW hT
              exact ih_36 (a + 1) (by omega) S μj hs hw19 hD hft (by rw [p_Tb_0]; exact hW) (by rw [p_Tb_0]; omega)
            · exact absurd (show nI b < nI (a_C E) from c_53) (by rw [hn]; exact Int32.lt_irrefl)
          | succ jj ih_47 =>
            intro b hn S μj hs hw19 hD hft hW hT
            have hn1 : b < a_C E := by omega
            refine ca_iload h dL_tell_47 rfl ?_
            refine ca_aload_nr h dL_tell_49 rfl ?_
            refine gi_L_31 h (hD.2.1.1 _ _ _ (by show _ ∧ _; omega)) dL_tell_50 ?_
            refine ca_top (y := nI (a_C E)) hD.2.2.1.1 ?_
            refine ca_icmp_ge (tgt := 113) h dL_tell_53 (by decide) (fun c_53 => ?_) (fun c_53 => ?_)
            · exact absurd ((nI_ltI (by omega) (by omega)).mpr hn1) c_53
            ·
              refine ca_aload_nr h dL_tell_56 rfl ?_
              refine gr_L_38 h (hD.2.1.1 _ _ _ (by show _ ∧ _; omega)) (hD.2.1.2.1 _ _ _ _ _ (by show _ ∧ _; omega) rfl) dL_tell_57 ?_
              show ch_W X E _ _ _ _ _ _ _ (.ref (S.1 16 24 1) :: _)
              refine ca_iload_n h dL_tell_60 rfl ?_
              refine oa_aald h (j := a) rfl (by decide) (hD.2.1.1 _ _ _ (by show _ ∧ _; omega)) rfl (by omega) (by decide) (hD.2.1.2.1 _ _ _ _ _ (by show _ ∧ _; omega) (o_rt241 (by omega))) dL_tell_61 ?_
              show ch_W X E _ _ _ _ _ _ _ (.ref (S.1 16 48 (8 + a)) :: _)
              refine ca_iload h dL_tell_62 rfl ?_
              refine oa_iald h (j := b) rfl (hD.2.1.1 _ _ _ (by show _ ∧ _; omega)) rfl (by omega) (by decide) dL_tell_64 ?_
              refine ca_top (y := hy a b) (hD.2.2.2.2.2.1 a b (by omega) (by omega)) ?_
              refine ca_if_ge (tgt := 71) h dL_tell_65 (by decide) (fun c_65 => ?_) (fun c_65 => ?_)
              ·
                refine ca_aload_nr h dL_tell_71 rfl ?_
                refine ca_aload_nr h dL_tell_72 rfl ?_
                refine ca_ldcs h (i := 81) (List.mem_of_getElem? (i := 2) rfl) dL_tell_73 ?_
                refine oa_S h hG ms_L_73 (c_L_word (a := 2) hs hw19 hW (by omega) (by decide) (w_ch (by decide)) (by decide)) rfl rfl rfl rfl ⟨by omega, by omega⟩ rfl dL_tell_75 ?_
                intro v' S1 μ1 hp
                obtain ⟨rfl, hS1, hW1, hr1⟩ := hp
                replace hS1 := hS1.symm
                subst hS1
                refine ca_aload_nr h dL_tell_78 rfl ?_
                refine ca_aload_nr h dL_tell_79 rfl ?_
                refine ca_iconst h dL_tell_80 ik_3 ?_
                obtain ⟨Sb, rfl⟩ : ∃ z, z = S := ⟨_, rfl⟩
                refine oa_newI 20 43 0 (n := 3) h hG (Or.inr ⟨19, 46, 0, hw19⟩) rfl kw_67 rfl (by omega) ⟨by omega, by omega⟩ dL_tell_81 ?_
                intro S μ2 hw
                rw [← (hw.2.2 15 11 0 (by omega)).1, ← (hw.2.2 19 46 0 (by omega)).1, ← (hw.2.2 16 22 0 (by omega)).1]
                have hv1 := hw.1
                have hs1 : ch_Std E S := std_fr hs (fun k hk => ⟨o_nw_a hw (by omega), o_nw_v hw (by omega), o_nw_r hw (by omega)⟩)
                have hv19 : S.2.1 19 46 0 := (hw.2.2 19 46 0 (by omega)).2.1.mpr hw19
                have hft1 := o_ft_nw (o_ft_wr hft hr1) hw
                have hD1 : o_dS E (a_C E) hy sv S μ2 S μ2 := o_dS_fr hD (o_nw_a hw (by decide)) (o_nw_v hw (by decide)) (o_nw_r hw (by decide)) (o_nw_v hw (by decide)) ((o_nw_m hw (by decide)).trans (hr1.1 16 (by decide) (by decide)))
                have hst1 := hD1.2.1
                have hWa := o_w_m hW1 (o_nw_m hw (by decide)) (o_nw_m hw (by decide))
                obtain ⟨-, -, -, d, hd, ed⟩ := (hk a b).resolve_left (fun z => c_65 (by rw [z]; decide))
                show ch_W X E 5 S μ2 _ _ _ _ _
                refine ca_dup h dL_tell_83 rfl ?_
                refine ca_iconst h dL_tell_84 ik_0 ?_
                refine ca_iload_n h dL_tell_85 rfl ?_
                refine oa_iast h (j := 0) rfl hv1 rfl (by omega) (by decide) dL_tell_86 ?_
                refine ca_dup h dL_tell_87 rfl ?_
                refine ca_iconst h dL_tell_88 ik_1 ?_
                refine ca_iload h dL_tell_89 rfl ?_
                refine oa_iast h (j := 1) rfl hv1 rfl (by omega) (by decide) dL_tell_91 ?_
                refine ca_dup h dL_tell_92 rfl ?_
                refine ca_iconst h dL_tell_93 ik_2 ?_
                refine ca_aload_nr h dL_tell_94 rfl ?_
                refine gr_L_38 h (hst1.1 _ _ _ (by show _ ∧ _; omega)) (hst1.2.1 _ _ _ _ _ (by show _ ∧ _; omega) rfl) dL_tell_95 ?_
                show ch_W X E _ _ _ _ _ _ _ (.ref (S.1 16 24 1) :: _)
                refine ca_iload_n h dL_tell_98 rfl ?_
                refine oa_aald h (j := a) rfl (by decide) (hst1.1 _ _ _ (by show _ ∧ _; omega)) rfl (by omega) (by decide) (hst1.2.1 _ _ _ _ _ (by show _ ∧ _; omega) (o_rt241 (by omega))) dL_tell_99 ?_
                show ch_W X E _ _ _ _ _ _ _ (.ref (S.1 16 48 (8 + a)) :: _)
                refine ca_iload h dL_tell_100 rfl ?_
                refine oa_iald h (j := b) rfl (hst1.1 _ _ _ (by show _ ∧ _; omega)) rfl (by omega) (by decide) dL_tell_102 ?_
                refine ca_top (y := hy a b) (by (repeat rw [o_st_x (by decide)]); exact hD1.2.2.2.2.2.1 a b (by omega) (by omega)) ?_
                refine oa_iast h (j := 2) rfl hv1 rfl (by omega) (by decide) dL_tell_103 ?_
                have hvals : ∀ t, t < 3 → (fun t => if t = 0 then a else if t = 1 then b else d) t < 1000 ∧ (ch_st (ch_st (ch_st μ2 20 43 0 0 (nI a)) 20 43 0 1 (nI b)) 20 43 0 2 (hy a b)) 20 43 0 t = nI ((fun t => if t = 0 then a else if t = 1 then b else d) t) := fun t ht => by
                  rcases (show t = 0 ∨ t = 1 ∨ t = 2 by omega) with rfl | rfl | rfl <;> refine ⟨by simp; omega, ?_⟩ <;> simp [ch_st_at, ed]
                have hme : ∀ k, k ≠ 20 → (ch_st (ch_st (ch_st μ2 20 43 0 0 (nI a)) 20 43 0 1 (nI b)) 20 43 0 2 (hy a b)) k = μ2 k := fun k h => by simp only [ch_st, up_n h]
                have hW2 : o_w (p_tx (p_Tb E hy a b) ++ p_w 2) (ch_st (ch_st (ch_st μ2 20 43 0 0 (nI a)) 20 43 0 1 (nI b)) 20 43 0 2 (hy a b)) := o_w_m hWa (hme 15 (by decide)) (hme 19 (by decide))
                have hft2 := o_ft_m hft1 hme
                have hD2 : o_dS E (a_C E) hy sv S (ch_st (ch_st (ch_st μ2 20 43 0 0 (nI a)) 20 43 0 1 (nI b)) 20 43 0 2 (hy a b)) S (ch_st (ch_st (ch_st μ2 20 43 0 0 (nI a)) 20 43 0 1 (nI b)) 20 43 0 2 (hy a b)) := o_dS_fr hD1 rfl rfl rfl rfl (hme 16 (by decide))
                generalize (ch_st (ch_st (ch_st μ2 20 43 0 0 (nI a)) 20 43 0 1 (nI b)) 20 43 0 2 (hy a b)) = μ6 at hvals hme hW2 hft2 hD2 ⊢
                refine oa_S h hG ms_L_77 (c_L_numbers (k := 20) (kd := 43) (i := 0) (N := 3) (v := fun t => if t = 0 then a else if t = 1 then b else d) hs1 hv19 hW2 (by rw [List.length_append, p_w_len]; have : k_len 2 = 8 := (by decide); omega) rfl (by decide) hv1 (by decide) hvals) rfl rfl rfl rfl ⟨by omega, by omega⟩ rfl dL_tell_104 ?_
                intro v' S1 μ3 hp
                obtain ⟨rfl, hS1, hW3, hr3⟩ := hp
                replace hS1 := hS1.symm
                subst hS1
                have hT3 : (p_tx (p_Tb E hy a (b + 1))).length ≤ 200 + 30 * (5 * a + (b + 1)) := by
                  have h1 := p_ns_len ((List.range 3).map (fun t => if t = 0 then a else if t = 1 then b else d))
                  have h2 : k_len 2 = 8 := by decide
                  have h3 : ((List.range 3).map (fun t => if t = 0 then a else if t = 1 then b else d)).length = 3 := by simp
                  rw [p_Tb_s ed hd, List.length_append, List.length_append, p_w_len]
                  omega
                rw [← p_Tb_s ed hd] at hW3
                have hft3 := o_ft_wr hft2 hr3
                have hD3 : o_dS E (a_C E) hy sv S μ3 S μ3 := o_dS_fr hD2 rfl rfl rfl rfl (hr3.1 16 (by decide) (by decide))
                refine ca_iinc h dL_tell_107 rfl ik_1 rfl ?_
                rw [show nI b + 1 = nI (b + 1) from nI_1 _]
                refine ca_goto (tgt := 47) h dL_tell_110 (by decide) ?_
                refine ca_pick [1, 2, 3, 4, 0] rfl ?_
                refine ca_widen (k := 5 * a + (b + 1)) (n := 3 * (5 * a + (b + 1))) (by omega) (by omega) ?_
                exact ih_47 (b + 1) (by omega) S μ3 hs1 hv19 hD3 hft3 hW3 hT3
              ·
                refine ca_goto (tgt := 107) h dL_tell_68 (by decide) ?_
                refine ca_iinc h dL_tell_107 rfl ik_1 rfl ?_
                rw [show nI b + 1 = nI (b + 1) from nI_1 _]
                refine ca_goto (tgt := 47) h dL_tell_110 (by decide) ?_
                refine ca_pick [1, 2, 3, 4, 0] rfl ?_
                refine ca_widen (k := 5 * a + (b + 1)) (n := 3 * (5 * a + (b + 1))) (by omega) (by omega) ?_
                exact ih_47 (b + 1) (by omega) S μj hs hw19 hD hft (by rw [p_Tb_n c_65]; exact hW) (by rw [p_Tb_n c_65]; omega)
        refine ca_pick [1, 2, 3, 4, 0] rfl ?_
        refine ca_widen (k := 5 * a + 0) (n := 3 * (5 * a + 0)) (by omega) (by omega) ?_
        exact loop_47 (a_C E) 0 (Nat.zero_add _) S μi hs hw19 hD hft hW hT
  refine ca_pick [1, 2, 3, 0] rfl ?_
  exact loop_36 (a_C E) 0 (Nat.zero_add _) Sa μ hs hw19 hD hft (by rw [p_Tb_00]; exact hW) (by rw [p_Tb_00]; omega)
set_option maxHeartbeats 600000 in
theorem c_L_tell {l : Launch} {E : ch_E} {S : ch_S} {μ : ch_M} {hy : Nat → Nat → Int32} {sv : Nat → Nat} (hs : ch_Std E S) (hw19 : S.2.1 19 46 0) (hD : o_dS E (a_C E) hy sv S μ S μ) (hk : o_hyk (a_C E) hy) (h6 : p_b6 sv) (h8 : k_c8 (μ 0) ∧ k_c8 (μ 1) ∧ k_m0 (μ 1)) (hW : o_w [] μ) : ch_C E l yL_tell cL_tell 5 (some FieldType.int) 9 27 83 S μ [.ref (S.1 15 11 0), .ref (S.1 19 46 0), .ref (S.1 16 22 0)] (o_TP E S μ) := by
  refine ch_enter rfl rfl ?_
  intro X hl0 h hG hR hnm
  have h : ch_H X E RL cL_tell 5 := h
  have hC5 := a_C5 E
  have hb8 := a_cv_b E
  show ch_W X E 5 S μ 0 0 0 [(0, .ref (S.1 15 11 0)), (1, .ref (S.1 19 46 0)), (2, .ref (S.1 16 22 0))] []
  refine ca_iconst h dL_tell_0 ik_0 ?_
  refine ca_istore_n h dL_tell_1 rfl ?_
  have loop_2 : ∀ (jj c : Nat), c + jj = a_C E → ∀ (μi : ch_M) (hWi : o_w (p_tx (p_cs (a_cv E) c)) μi) (hri : o_wr μ μi) (hTi : (p_tx (p_cs (a_cv E) c)).length ≤ 40 * c), ch_W X E 5 S μi 0 0 2 [(0, .ref (S.1 15 11 0)), (1, .ref (S.1 19 46 0)), (2, .ref (S.1 16 22 0)), (3, .int (nI c))] [] := by
    intro jj
    induction jj with
    | zero =>
      intro c hn μi hWi hri hTi
      have hn : c = a_C E := by omega
      refine ca_iload_n h dL_tell_2 rfl ?_
      refine ca_aload_nr h dL_tell_3 rfl ?_
      refine gi_L_31 h (hD.2.1.1 _ _ _ (by show _ ∧ _; omega)) dL_tell_4 ?_
      refine ca_top (y := nI (a_C E)) (by rw [hri.1 16 (by decide) (by decide)]; exact hD.2.2.1.1) ?_
      refine ca_icmp_ge (tgt := 34) h dL_tell_7 (by decide) (fun c_7 => ?_) (fun c_7 => ?_)
      ·
        rw [hn] at hWi hTi
        exact ca_pick [0, 1, 2] rfl (c_tellR h hG hR hs hw19 (o_dS_fr hD rfl rfl rfl rfl (hri.1 16 (by decide) (by decide))) hk h6 (o_ft_wr o_ft_0 hri) h8 hWi (by omega))
      · exact absurd (show nI c < nI (a_C E) from c_7) (by rw [hn]; exact Int32.lt_irrefl)
    | succ jj ih_2 =>
      intro c hn μi hWi hri hTi
      have hn1 : c < a_C E := by omega
      refine ca_iload_n h dL_tell_2 rfl ?_
      refine ca_aload_nr h dL_tell_3 rfl ?_
      refine gi_L_31 h (hD.2.1.1 _ _ _ (by show _ ∧ _; omega)) dL_tell_4 ?_
      refine ca_top (y := nI (a_C E)) (by rw [hri.1 16 (by decide) (by decide)]; exact hD.2.2.1.1) ?_
      refine ca_icmp_ge (tgt := 34) h dL_tell_7 (by decide) (fun c_7 => ?_) (fun c_7 => ?_)
      · exact absurd ((nI_ltI (by omega) (by omega)).mpr hn1) c_7
      ·
        refine ca_aload_nr h dL_tell_10 rfl ?_
        refine ca_aload_nr h dL_tell_11 rfl ?_
        refine ca_ldcs h (i := 72) (List.mem_of_getElem? (i := 1) rfl) dL_tell_12 ?_
        refine oa_S h hG ms_L_73 (c_L_word (a := 1) hs hw19 hWi (by omega) (by decide) (w_ch (by decide)) (by decide)) rfl rfl rfl rfl ⟨by omega, by omega⟩ rfl dL_tell_14 ?_
        intro v' S1 μ1 hp
        obtain ⟨rfl, hS1, hW1, hr1⟩ := hp
        replace hS1 := hS1.symm
        subst hS1
        have hvals : ∀ t, t < 8 → a_cv E c t < 1000 ∧ μ1 16 48 c t = nI (a_cv E c t) := fun t ht => by
          rw [hr1.1 16 (by decide) (by decide), hri.1 16 (by decide) (by decide)]
          refine ⟨?_, hD.2.2.2.2.1 c t hn1 ht⟩
          obtain ⟨b0, b1, b2, b3, b4, b5, b6, b7⟩ := hb8 c
          rcases (show t = 0 ∨ t = 1 ∨ t = 2 ∨ t = 3 ∨ t = 4 ∨ t = 5 ∨ t = 6 ∨ t = 7 by omega) with rfl | rfl | rfl | rfl | rfl | rfl | rfl | rfl <;> omega
        refine ca_aload_nr h dL_tell_17 rfl ?_
        refine ca_aload_nr h dL_tell_18 rfl ?_
        refine ca_aload_nr h dL_tell_19 rfl ?_
        refine gr_L_35 h (hD.2.1.1 _ _ _ (by show _ ∧ _; omega)) (hD.2.1.2.1 _ _ _ _ _ (by show _ ∧ _; omega) rfl) dL_tell_20 ?_
        show ch_W X E _ _ _ _ _ _ _ (.ref (S.1 16 24 0) :: _)
        refine ca_iload_n h dL_tell_23 rfl ?_
        refine oa_aald h (j := c) rfl (by decide) (hD.2.1.1 _ _ _ (by show _ ∧ _; omega)) rfl (by omega) (by decide) (hD.2.1.2.1 _ _ _ _ _ (by show _ ∧ _; omega) (o_rt240 (by omega))) dL_tell_24 ?_
        show ch_W X E _ _ _ _ _ _ _ (.ref (S.1 16 48 c) :: _)
        refine oa_S h hG ms_L_77 (c_L_numbers (k := 16) (kd := 48) (i := c) (N := 8) (v := a_cv E c) hs hw19 hW1 (by rw [List.length_append, p_w_len]; have : k_len 1 = 4 := (by decide); omega) rfl (by decide) (hD.2.1.1 _ _ _ (by show _ ∧ _; omega)) (by decide) hvals) rfl rfl rfl rfl ⟨by omega, by omega⟩ rfl dL_tell_25 ?_
        intro v' S1 μ2 hp
        obtain ⟨rfl, hS1, hW2, hr2⟩ := hp
        replace hS1 := hS1.symm
        subst hS1
        have hT2 : (p_tx (p_cs (a_cv E) (c + 1))).length ≤ 40 * (c + 1) := by
          have h1 := p_ns_len ((List.range 8).map (a_cv E c))
          have h2 : k_len 1 = 4 := by decide
          have h3 : ((List.range 8).map (a_cv E c)).length = 8 := by simp
          rw [p_cs_s, List.length_append, List.length_append, p_w_len]
          omega
        rw [← p_cs_s] at hW2
        refine ca_iinc h dL_tell_28 rfl ik_1 rfl ?_
        rw [show nI c + 1 = nI (c + 1) from nI_1 _]
        refine ca_goto (tgt := 2) h dL_tell_31 (by decide) ?_
        refine ca_pick [1, 2, 3, 0] rfl ?_
        exact ih_2 (c + 1) (by omega) μ2 hW2 (o_wr_tr (o_wr_tr hri hr1) hr2) hT2
  refine ca_pick [1, 2, 3, 0] rfl ?_
  exact loop_2 (a_C E) 0 (Nat.zero_add _) μ hW (o_wr_0 μ) (Nat.zero_le _)
