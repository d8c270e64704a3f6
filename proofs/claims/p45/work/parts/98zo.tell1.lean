theorem p_ns_len : ∀ vs, (p_ns vs).length ≤ 4 * vs.length + 1
  | [] => by decide
  | v :: vs => by
    have := p_ns_len vs
    have := p_D_len v
    show (32 :: (p_D v ++ p_ns vs)).length ≤ 4 * (vs.length + 1) + 1
    rw [List.length_cons, List.length_append]
    omega
theorem w_chr : ∀ a, a < 4 → ∀ i, i < k_len a → Int32.toNatClampNeg (k_chr a i) < 256 ∧ k_chr a i = nI (Int32.toNatClampNeg (k_chr a i)) := by decide
theorem w_ch {a : Nat} (ha : a < 4) : ∀ i, i < k_len a → ∃ b, b < 256 ∧ k_chr a i = nI b := fun i hi => ⟨_, w_chr a ha i hi⟩
theorem p_w_len (a : Nat) : (p_w a).length = k_len a := by unfold p_w; simp
/-- the text as far as the relations -/
def p_T1 (E : ch_E) (hy : Nat → Nat → Int32) : List (Nat × List Nat) := p_cs (a_cv E) (a_C E) ++ (p_pa hy (a_C E) (a_C E)).map (p_rl hy)
theorem p_T1_all (E : ch_E) (hy : Nat → Nat → Int32) (sv : Nat → Nat) : p_tx (p_all (a_cv E) hy sv (a_C E)) = (p_tx (p_T1 E hy) ++ p_w 3) ++ p_ns ((List.range 6).map sv) := by
  unfold p_all p_T1
  rw [← List.append_assoc, p_tx_app, p_tx_1, ← List.append_assoc]
  rfl
theorem p_cs_len (cv : Nat → Nat → Nat) : ∀ C, (p_cs cv C).length = C
  | 0 => rfl
  | C + 1 => by show (p_cs cv C ++ _).length = _; rw [List.length_append, p_cs_len cv C]; rfl
theorem p_all_len {cv : Nat → Nat → Nat} {hy : Nat → Nat → Int32} {sv : Nat → Nat} {C : Nat} (hC : C ≤ 5) (hk : o_hyk C hy) : (p_all cv hy sv C).length < 700 := by
  have := pa_20 hC hk
  unfold p_all
  rw [List.length_append, List.length_append, List.length_map, p_cs_len]
  simp
  omega
set_option maxHeartbeats 600000 in
theorem c_tellS {X : ch_X} {E : ch_E} {hy : Nat → Nat → Int32} {sv : Nat → Nat} {S S0 : ch_S} {μ μ0 : ch_M} (h : ch_H X E RL cL_tell 5) (hG : ch_G X 9 27 83) (hR : ch_R X E (some FieldType.int) 27 83 (o_TP E S0 μ0)) (hs : ch_Std E S) (hw19 : S.2.1 19 46 0) (hD : o_dS E (a_C E) hy sv S μ S μ) (hk : o_hyk (a_C E) hy) (h6 : p_b6 sv) (hft : o_ft S0 μ0 S μ) (h8 : k_c8 (μ0 0) ∧ k_c8 (μ0 1) ∧ k_m0 (μ0 1)) (hW : o_w (p_tx (p_T1 E hy)) μ) (hT : (p_tx (p_T1 E hy)).length ≤ 3000) : ch_W X E 5 S μ 25 75 119 [(0, .ref (S.1 15 11 0)), (1, .ref (S.1 19 46 0)), (2, .ref (S.1 16 22 0))] [] := by
  have hC5 := a_C5 E
  obtain ⟨Sa, rfl⟩ : ∃ z, z = S := ⟨_, rfl⟩
  refine ca_aload_nr h dL_tell_119 rfl ?_
  refine ca_aload_nr h dL_tell_120 rfl ?_
  refine ca_ldcs h (i := 83) (List.mem_of_getElem? (i := 3) rfl) dL_tell_121 ?_
  refine oa_S h hG ms_L_73 (c_L_word (a := 3) hs hw19 hW (by omega) (by decide) (w_ch (by decide)) (by decide)) rfl rfl rfl rfl ⟨by omega, by omega⟩ rfl dL_tell_123 ?_
  intro v' S1 μ1 hp
  obtain ⟨rfl, hS1, hW1, hr1⟩ := hp
  replace hS1 := hS1.symm
  subst hS1
  refine ca_aload_nr h dL_tell_126 rfl ?_
  refine ca_aload_nr h dL_tell_127 rfl ?_
  refine ca_bipush h dL_tell_128 bk_6 ?_
  refine oa_newI 20 46 0 (n := 6) h hG (Or.inr ⟨19, 46, 0, hw19⟩) rfl kw_67 rfl (by omega) ⟨by omega, by omega⟩ dL_tell_130 ?_
  intro S1 μ2 hw
  rw [← (hw.2.2 15 11 0 (by omega)).1, ← (hw.2.2 19 46 0 (by omega)).1, ← (hw.2.2 16 22 0 (by omega)).1]
  have hv1 := hw.1
  have hs1 : ch_Std E S1 := std_fr hs (fun k hk => ⟨o_nw_a hw (by omega), o_nw_v hw (by omega), o_nw_r hw (by omega)⟩)
  have hv19 : S1.2.1 19 46 0 := (hw.2.2 19 46 0 (by omega)).2.1.mpr hw19
  have hft1 := o_ft_nw (o_ft_wr hft hr1) hw
  have hD1 : o_dS E (a_C E) hy sv S1 μ2 S1 μ2 := o_dS_fr hD (o_nw_a hw (by decide)) (o_nw_v hw (by decide)) (o_nw_r hw (by decide)) (o_nw_v hw (by decide)) ((o_nw_m hw (by decide)).trans (hr1.1 16 (by decide) (by decide)))
  have hWa := o_w_m hW1 (o_nw_m hw (by decide)) (o_nw_m hw (by decide))
  obtain ⟨⟨q0, q0'⟩, ⟨q1, q1'⟩, q2, ⟨q3, q3'⟩, q4, q5, q5'⟩ := id h6
  show ch_W X E 5 S1 μ2 _ _ _ _ _
  refine ca_dup h dL_tell_132 rfl ?_
  refine ca_iconst h dL_tell_133 ik_0 ?_
  refine ca_aload_nr h dL_tell_134 rfl ?_
  refine gi_L_41 h (hD1.2.1.1 _ _ _ ⟨rfl, rfl⟩) dL_tell_135 ?_
  refine ca_top (y := nI (sv 0)) (by (repeat rw [o_st_x (by decide)]); exact hD1.2.2.2.1 0 (by decide)) ?_
  refine oa_iast h (j := 0) rfl hv1 rfl (by omega) (by decide) dL_tell_138 ?_
  refine ca_dup h dL_tell_139 rfl ?_
  refine ca_iconst h dL_tell_140 ik_1 ?_
  refine ca_aload_nr h dL_tell_141 rfl ?_
  refine gi_L_44 h (hD1.2.1.1 _ _ _ ⟨rfl, rfl⟩) dL_tell_142 ?_
  refine ca_top (y := nI (sv 1)) (by (repeat rw [o_st_x (by decide)]); exact hD1.2.2.2.1 1 (by decide)) ?_
  refine oa_iast h (j := 1) rfl hv1 rfl (by omega) (by decide) dL_tell_145 ?_
  refine ca_dup h dL_tell_146 rfl ?_
  refine ca_iconst h dL_tell_147 ik_2 ?_
  refine ca_aload_nr h dL_tell_148 rfl ?_
  refine gi_L_47 h (hD1.2.1.1 _ _ _ ⟨rfl, rfl⟩) dL_tell_149 ?_
  refine ca_top (y := nI (sv 2)) (by (repeat rw [o_st_x (by decide)]); exact hD1.2.2.2.1 2 (by decide)) ?_
  refine oa_iast h (j := 2) rfl hv1 rfl (by omega) (by decide) dL_tell_152 ?_
  refine ca_dup h dL_tell_153 rfl ?_
  refine ca_iconst h dL_tell_154 ik_3 ?_
  refine ca_aload_nr h dL_tell_155 rfl ?_
  refine gi_L_50 h (hD1.2.1.1 _ _ _ ⟨rfl, rfl⟩) dL_tell_156 ?_
  refine ca_top (y := nI (sv 3)) (by (repeat rw [o_st_x (by decide)]); exact hD1.2.2.2.1 3 (by decide)) ?_
  refine oa_iast h (j := 3) rfl hv1 rfl (by omega) (by decide) dL_tell_159 ?_
  refine ca_dup h dL_tell_160 rfl ?_
  refine ca_iconst h dL_tell_161 ik_4 ?_
  refine ca_aload_nr h dL_tell_162 rfl ?_
  refine gi_L_53 h (hD1.2.1.1 _ _ _ ⟨rfl, rfl⟩) dL_tell_163 ?_
  refine ca_top (y := nI (sv 4)) (by (repeat rw [o_st_x (by decide)]); exact hD1.2.2.2.1 4 (by decide)) ?_
  refine oa_iast h (j := 4) rfl hv1 rfl (by omega) (by decide) dL_tell_166 ?_
  refine ca_dup h dL_tell_167 rfl ?_
  refine ca_iconst h dL_tell_168 ik_5 ?_
  refine ca_aload_nr h dL_tell_169 rfl ?_
  refine gi_L_56 h (hD1.2.1.1 _ _ _ ⟨rfl, rfl⟩) dL_tell_170 ?_
  refine ca_top (y := nI (sv 5)) (by (repeat rw [o_st_x (by decide)]); exact hD1.2.2.2.1 5 (by decide)) ?_
  refine oa_iast h (j := 5) rfl hv1 rfl (by omega) (by decide) dL_tell_173 ?_
  have hvals : ∀ t, t < 6 → sv t < 1000 ∧ (ch_st (ch_st (ch_st (ch_st (ch_st (ch_st μ2 20 46 0 0 (nI (sv 0))) 20 46 0 1 (nI (sv 1))) 20 46 0 2 (nI (sv 2))) 20 46 0 3 (nI (sv 3))) 20 46 0 4 (nI (sv 4))) 20 46 0 5 (nI (sv 5))) 20 46 0 t = nI (sv t) := fun t ht => by
    rcases (show t = 0 ∨ t = 1 ∨ t = 2 ∨ t = 3 ∨ t = 4 ∨ t = 5 by omega) with rfl | rfl | rfl | rfl | rfl | rfl <;> refine ⟨by omega, ?_⟩ <;> simp [ch_st_at]
  have hme : ∀ k, k ≠ 20 → (ch_st (ch_st (ch_st (ch_st (ch_st (ch_st μ2 20 46 0 0 (nI (sv 0))) 20 46 0 1 (nI (sv 1))) 20 46 0 2 (nI (sv 2))) 20 46 0 3 (nI (sv 3))) 20 46 0 4 (nI (sv 4))) 20 46 0 5 (nI (sv 5))) k = μ2 k := fun k h => by simp only [ch_st, up_n h]
  have hW2 : o_w (p_tx (p_T1 E hy) ++ p_w 3) (ch_st (ch_st (ch_st (ch_st (ch_st (ch_st μ2 20 46 0 0 (nI (sv 0))) 20 46 0 1 (nI (sv 1))) 20 46 0 2 (nI (sv 2))) 20 46 0 3 (nI (sv 3))) 20 46 0 4 (nI (sv 4))) 20 46 0 5 (nI (sv 5))) := o_w_m hWa (hme 15 (by decide)) (hme 19 (by decide))
  have hft2 := o_ft_m hft1 hme
  have hD2 : o_dS E (a_C E) hy sv S1 (ch_st (ch_st (ch_st (ch_st (ch_st (ch_st μ2 20 46 0 0 (nI (sv 0))) 20 46 0 1 (nI (sv 1))) 20 46 0 2 (nI (sv 2))) 20 46 0 3 (nI (sv 3))) 20 46 0 4 (nI (sv 4))) 20 46 0 5 (nI (sv 5))) S1 (ch_st (ch_st (ch_st (ch_st (ch_st (ch_st μ2 20 46 0 0 (nI (sv 0))) 20 46 0 1 (nI (sv 1))) 20 46 0 2 (nI (sv 2))) 20 46 0 3 (nI (sv 3))) 20 46 0 4 (nI (sv 4))) 20 46 0 5 (nI (sv 5))) := o_dS_fr hD1 rfl rfl rfl rfl (hme 16 (by decide))
  generalize (ch_st (ch_st (ch_st (ch_st (ch_st (ch_st μ2 20 46 0 0 (nI (sv 0))) 20 46 0 1 (nI (sv 1))) 20 46 0 2 (nI (sv 2))) 20 46 0 3 (nI (sv 3))) 20 46 0 4 (nI (sv 4))) 20 46 0 5 (nI (sv 5))) = μ6 at hvals hme hW2 hft2 hD2 ⊢
  refine oa_S h hG ms_L_77 (c_L_numbers (k := 20) (kd := 46) (i := 0) (N := 6) (v := sv) hs1 hv19 hW2 (by rw [List.length_append, p_w_len]; have : k_len 3 = 8 := (by decide); omega) rfl (by decide) hv1 (by decide) hvals) rfl rfl rfl rfl ⟨by omega, by omega⟩ rfl dL_tell_174 ?_
  intro v' S1 μ3 hp
  obtain ⟨rfl, hS1, hW3, hr3⟩ := hp
  replace hS1 := hS1.symm
  subst hS1
  rw [← p_T1_all] at hW3
  have hlen : (p_tx (p_all (a_cv E) hy sv (a_C E))).length < 50000 := by
    have h1 := p_ns_len ((List.range 6).map sv)
    have h2 : k_len 3 = 8 := by decide
    have h3 : ((List.range 6).map sv).length = 6 := by simp
    rw [p_T1_all, List.length_append, List.length_append, p_w_len]
    omega
  refine ca_aload_nr h dL_tell_177 rfl ?_
  refine ca_iconst h dL_tell_178 ik_5 ?_
  refine oa_iald h (j := 5) rfl hv19 rfl (by omega) (by decide) dL_tell_179 ?_
  refine ca_top (y := nI (p_tx (p_all (a_cv E) hy sv (a_C E))).length) hW3.2.1 ?_
  refine ca_sipush h dL_tell_180 sk_690 ?_
  refine ca_icmp_le (tgt := 189) h dL_tell_183 (by decide) (fun c_183 => ?_) (fun c_183 => ?_)
  ·
    refine ca_aload_nr h dL_tell_189 rfl ?_
    refine ca_aload_nr h dL_tell_190 rfl ?_
    refine ca_aload_nr h dL_tell_191 rfl ?_
    refine oa_S h hG ms_L_85 (c_L_end hs1 hv19 hW3 (Nat.le_of_not_lt fun z => c_183 ((nI_ltI (a := 690) (by decide) (by omega)).mpr z))) rfl rfl rfl rfl ⟨by omega, by omega⟩ rfl dL_tell_192 ?_
    intro v' S9 μ4 hp
    obtain ⟨rfl, hS9, hr4, M, m1, m2, m3, m4⟩ := hp
    replace hS9 := hS9.symm
    subst hS9
    have hlen7 : (p_tx (p_all (a_cv E) hy sv (a_C E))).length ≤ 700 := by omega
    have hft4 := o_ft_wr (o_ft_wr hft2 hr3) hr4
    obtain ⟨ao, aL, ak⟩ := p_all_run hC5.2 (a_cv_b E) hk h6 (μ4 1)
    have hnet := p_net (q := μ4 15) (n := μ4 1) (p_all_len hC5.2 hk) hlen7 m4 ao
    refine oa_V h hG ml_L_89 (c_X11_load hs1 (L := M) (e := (p_tx (p_all (a_cv E) hy sv (a_C E))).length) m3 m1 m2 hnet.1) (ci := 11) rfl rfl rfl (hs1.1 _ _ _ ⟨rfl, rfl⟩) rfl rfl rfl rfl ⟨by omega, by omega⟩ rfl dL_tell_195 ?_
    intro v' S5 μ5 hp
    obtain ⟨rfl, hs5, hn5, hr5, hm5⟩ := hp
    refine ca_widen (k := 27) (n := 83) (by omega) (by omega) ?_
    refine ca_ireturn h hR rfl dL_tell_198 ?_
    rw [hnet.2] at hm5
    have hl1 : ∀ kd, kd ≠ 12 → (l_net (t_open (μ4 15) (nI (p_tx (p_all (a_cv E) hy sv (a_C E))).length), μ4 1)).1 kd = μ4 15 kd := fun kd h => tq_net h _ _ _
    generalize hN : p_run (p_all (a_cv E) hy sv (a_C E)) (k_clear (μ4 1)) = N at aL ak hm5
    generalize (l_net (t_open (μ4 15) (nI (p_tx (p_all (a_cv E) hy sv (a_C E))).length), μ4 1)).1 = Q at hl1 hm5
    have m0 : μ5 0 = k_cp (μ4 0) N := by rw [hm5, up_n (by decide), up_s]
    have m1' : μ5 1 = N := by rw [hm5, up_n (by decide), up_n (by decide), up_s]
    have m15 : μ5 15 = nw (t_close Q) 14 0 0 0 := by rw [hm5, up_s]
    have mk : ∀ k, 2 ≤ k → k ≠ 15 → μ5 k = μ4 k := fun k a b => by rw [hm5, up_n b, up_n (by omega), up_n (by omega)]
    have g0 : μ4 0 = μ0 0 := hft4.2.1 0 (by decide) (by decide) (by decide)
    have g1 : μ4 1 = μ0 1 := hft4.2.1 1 (by decide) (by decide) (by decide)
    have cN : k_c8 N := fun i c hi hc => by rw [ak 5 (by decide) (by decide), g1]; exact h8.2.1 i c hi hc
    have e14 : ∀ j, t_close Q 14 0 j = μ0 15 14 0 j := fun j => by
      unfold t_close
      rw [nw_k (by decide), nw_k (by decide), hl1 14 (by decide), hft4.2.2.1 14 (by decide) (by decide)]
    have hv2 : (l_net (t_open (μ4 15) (nI (p_tx (p_all (a_cv E) hy sv (a_C E))).length), μ4 1)).2 0 0 0 = nI (a_C E) := by rw [hnet.2, hN]; exact aL.1.1
    have nm : ∀ a b c, ¬ (a = 15 ∧ b = 35) → a ≠ 20 → S5.1 a b c = S0.1 a b c ∧ (S5.2.1 a b c ↔ S0.2.1 a b c) := fun a b c x y => by
      have z : ¬ (a = 15 ∧ b = 35 ∧ c = 0) := fun z => x ⟨z.1, z.2.1⟩
      exact ⟨(hn5 a b c z).trans (by rw [(hft4.1 a y).1]), (hr5 a b c z).2.trans (by rw [(hft4.1 a y).2.1])⟩
    refine Or.inr ⟨by rw [hv2], hs5, nm, ⟨hy, sv, ?_, hk, h6, by rw [m0]; exact LD_ag (k_cp_ag _ _) (by omega) aL⟩, fun k h2 h15 => (mk k h2 (by omega)).trans (hft4.2.1 k (by omega) (by omega) (by omega)), ⟨by rw [m0, g0]; exact k_cp_c8 h8.1 cN, by rw [m1']; exact cN, fun m hm z => ?_⟩, by rw [m15, nw_at, if_pos ⟨rfl, rfl, rfl⟩], by rw [m15, nw_at, if_neg (by decide)]; exact e14 1⟩
    · refine o_dS_fr hD2 ?_ ?_ ?_ ?_ ((mk 16 (by decide) (by decide)).trans ((hr4.1 16 (by decide) (by decide)).trans (hr3.1 16 (by decide) (by decide))))
      · funext b c; exact hn5 16 b c (by omega)
      · funext b c; exact propext (hr5 16 b c (by omega)).2
      · funext b c; exact (hr5 16 b c (by omega)).1
      · funext b c; exact propext (hr5 18 b c (by omega)).2
    · have ea := k_cp_ag (μ4 0) N
      rw [m0] at z ⊢
      rw [ag_3 ea hm (by decide), ak 3 (by decide) (by decide), g1] at z ⊢
      exact h8.2.2 m hm z
  ·
    refine ca_bipush h dL_tell_186 bk_m99 ?_
    refine ca_widen (k := 27) (n := 83) (by omega) (by omega) ?_
    refine ca_ireturn h hR rfl dL_tell_188 ?_
    exact Or.inl rfl
