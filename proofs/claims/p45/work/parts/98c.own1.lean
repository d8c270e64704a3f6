set_option maxHeartbeats 400000 in
theorem c_X13_init {l : Launch} {E : ch_E} {S : ch_S} {μ : ch_M} (h22 : S.2.1 16 22 0) (hF : ∃ F, ∀ kd i, F ≤ i → ¬ S.2.1 18 kd i) : ch_C E l yX13_init cX13_init 1 none 2 31 256 S μ [.ref (S.1 16 22 0)] (fun v' S' μ' => v' = none ∧ (∀ k, k ≠ 16 → S'.1 k = S.1 k ∧ S'.2.1 k = S.2.1 k ∧ S'.2.2 k = S.2.2 k ∧ μ' k = μ k) ∧ S'.1 16 22 0 = S.1 16 22 0 ∧ o_St S' 0 0 ∧ (∀ i, 8 ≤ i → i < 34 → ∀ b, μ' 16 48 i b = 0) ∧ μ' 16 22 0 = (ch_st (ch_st (ch_st (ch_st (ch_st (ch_st μ 16 22 0 3 4) 16 22 0 4 2) 16 22 0 5 5) 16 22 0 6 4) 16 22 0 7 5) 16 22 0 8 3) 16 22 0) := by
  refine ch_enter rfl rfl ?_
  intro X hl0 h hG hR hnm
  have h : ch_H X E RX13 cX13_init 1 := h
  show ch_W X E 1 S μ 0 0 0 [(0, .ref (S.1 16 22 0))] []
  refine ca_aload_nr h dX13_init_0 rfl ?_
  refine ca_objI h hG kw_791 kw_32 kw_33 rfl rfl dX13_init_1 ?_
  refine ca_aload_nr h dX13_init_4 rfl ?_
  refine ca_iconst h dX13_init_5 ik_4 ?_
  refine pi_X13_7 h h22 dX13_init_6 ?_
  refine ca_aload_nr h dX13_init_9 rfl ?_
  refine ca_iconst h dX13_init_10 ik_2 ?_
  refine pi_X13_13 h h22 dX13_init_11 ?_
  refine ca_aload_nr h dX13_init_14 rfl ?_
  refine ca_iconst h dX13_init_15 ik_5 ?_
  refine pi_X13_16 h h22 dX13_init_16 ?_
  refine ca_aload_nr h dX13_init_19 rfl ?_
  refine ca_iconst h dX13_init_20 ik_4 ?_
  refine pi_X13_19 h h22 dX13_init_21 ?_
  refine ca_aload_nr h dX13_init_24 rfl ?_
  refine ca_iconst h dX13_init_25 ik_5 ?_
  refine pi_X13_22 h h22 dX13_init_26 ?_
  refine ca_aload_nr h dX13_init_29 rfl ?_
  refine ca_iconst h dX13_init_30 ik_3 ?_
  refine pi_X13_25 h h22 dX13_init_31 ?_
  have ow : o_ow S μ ((ch_st (ch_st (ch_st (ch_st (ch_st (ch_st μ 16 22 0 3 4) 16 22 0 4 2) 16 22 0 5 5) 16 22 0 6 4) 16 22 0 7 5) 16 22 0 8 3) 16 22 0) 0 S (ch_st (ch_st (ch_st (ch_st (ch_st (ch_st μ 16 22 0 3 4) 16 22 0 4 2) 16 22 0 5 5) 16 22 0 6 4) 16 22 0 7 5) 16 22 0 8 3) := ⟨fun k hk => ⟨rfl, rfl, rfl, by repeat rw [o_st_x hk]⟩, ⟨h22, rfl, rfl⟩, fun j hj => absurd hj (Nat.not_lt_zero _)⟩
  generalize hμ1 : (ch_st (ch_st (ch_st (ch_st (ch_st (ch_st μ 16 22 0 3 4) 16 22 0 4 2) 16 22 0 5 5) 16 22 0 6 4) 16 22 0 7 5) 16 22 0 8 3) 16 22 0 = μ1 at ow ⊢
  generalize (ch_st (ch_st (ch_st (ch_st (ch_st (ch_st μ 16 22 0 3 4) 16 22 0 4 2) 16 22 0 5 5) 16 22 0 6 4) 16 22 0 7 5) 16 22 0 8 3) = μ9 at ow ⊢
  obtain ⟨S0, rfl⟩ : ∃ z, z = S := ⟨_, rfl⟩
  refine ca_aload_nr h dX13_init_34 rfl ?_
  refine ca_bipush h dX13_init_35 bk_8 ?_
  refine oa_newA 16 24 0 h (n := 8) hG (Or.inr ⟨16, 22, 0, h22⟩) rfl kw_792 rfl (by omega) ⟨by omega, by omega⟩ dX13_init_37 ?_
  intro S μ hw
  rw [← (hw.2.2 16 22 0 (by decide)).1]
  have h22 := (hw.2.2 16 22 0 (by decide)).2.1.mpr ow.2.1.1
  refine pr_X13_30 h h22 dX13_init_40 ?_
  have hr := o_rfd_mk 16 22 0 (9 + 0) (S.1 16 24 0) S
  have ow := o_ow_s (t := 0) ow (by decide) (fun a b c e1 e2 => hw.2.2 a b c e1) hw.1 (fun z => absurd z (by decide)) (fun z => absurd z (by decide)) hr
  have hS1 : s_rf S 16 22 0 9 (S.1 16 24 0) = s_rf S 16 22 0 (9 + 0) (S.1 16 24 0) := rfl
  rw [hS1]
  clear hS1 hw h22
  generalize s_rf S 16 22 0 (9 + 0) (S.1 16 24 0) = S at hr ow ⊢
  rw [← hr.1]
  have h22 := ow.2.1.1
  refine ca_aload_nr h dX13_init_43 rfl ?_
  refine ca_bipush h dX13_init_44 bk_8 ?_
  refine ca_bipush h dX13_init_46 bk_8 ?_
  refine oa_mna 16 24 1 16 48 (8 * 1) (by decide) h (N := 8) (K := 8) hG (Or.inr ⟨16, 22, 0, h22⟩) rfl rfl kw_794 kw_67 rfl rfl (by omega) (by omega) ⟨by omega, by omega⟩ dX13_init_48 ?_
  intro S μ hw
  rw [← (hw.2.2 16 22 0 (by decide) (by decide)).1]
  have h22 := (hw.2.2 16 22 0 (by decide) (by decide)).2.1.mpr ow.2.1.1
  refine pr_X13_35 h h22 dX13_init_52 ?_
  have hr := o_rfd_mk 16 22 0 (9 + 1) (S.1 16 24 1) S
  have ow := o_ow_s (t := 1) ow (by decide) (fun a b c e1 e2 => hw.2.2 a b c e1 (fun z => e2 ⟨z.1, z.2.1, z.2.2.1, z.2.2.2, by decide, by decide⟩)) hw.1 (fun _ _ a ha => hw.2.1 a ha) (fun z => absurd z (by decide)) hr
  have hS1 : s_rf S 16 22 0 10 (S.1 16 24 1) = s_rf S 16 22 0 (9 + 1) (S.1 16 24 1) := rfl
  rw [hS1]
  clear hS1 hw h22
  generalize s_rf S 16 22 0 (9 + 1) (S.1 16 24 1) = S at hr ow ⊢
  rw [← hr.1]
  have h22 := ow.2.1.1
  refine ca_aload_nr h dX13_init_55 rfl ?_
  refine ca_bipush h dX13_init_56 bk_8 ?_
  refine ca_bipush h dX13_init_58 bk_8 ?_
  refine oa_mna 16 24 2 16 48 (8 * 2) (by decide) h (N := 8) (K := 8) hG (Or.inr ⟨16, 22, 0, h22⟩) rfl rfl kw_794 kw_67 rfl rfl (by omega) (by omega) ⟨by omega, by omega⟩ dX13_init_60 ?_
  intro S μ hw
  rw [← (hw.2.2 16 22 0 (by decide) (by decide)).1]
  have h22 := (hw.2.2 16 22 0 (by decide) (by decide)).2.1.mpr ow.2.1.1
  refine pr_X13_38 h h22 dX13_init_64 ?_
  have hr := o_rfd_mk 16 22 0 (9 + 2) (S.1 16 24 2) S
  have ow := o_ow_s (t := 2) ow (by decide) (fun a b c e1 e2 => hw.2.2 a b c e1 (fun z => e2 ⟨z.1, z.2.1, z.2.2.1, z.2.2.2, by decide, by decide⟩)) hw.1 (fun _ _ a ha => hw.2.1 a ha) (fun z => absurd z (by decide)) hr
  have hS1 : s_rf S 16 22 0 11 (S.1 16 24 2) = s_rf S 16 22 0 (9 + 2) (S.1 16 24 2) := rfl
  rw [hS1]
  clear hS1 hw h22
  generalize s_rf S 16 22 0 (9 + 2) (S.1 16 24 2) = S at hr ow ⊢
  rw [← hr.1]
  have h22 := ow.2.1.1
  refine ca_aload_nr h dX13_init_67 rfl ?_
  refine ca_bipush h dX13_init_68 bk_8 ?_
  refine ca_bipush h dX13_init_70 bk_8 ?_
  refine oa_mna 16 24 3 16 48 (8 * 3) (by decide) h (N := 8) (K := 8) hG (Or.inr ⟨16, 22, 0, h22⟩) rfl rfl kw_794 kw_67 rfl rfl (by omega) (by omega) ⟨by omega, by omega⟩ dX13_init_72 ?_
  intro S μ hw
  rw [← (hw.2.2 16 22 0 (by decide) (by decide)).1]
  have h22 := (hw.2.2 16 22 0 (by decide) (by decide)).2.1.mpr ow.2.1.1
  refine pr_X13_41 h h22 dX13_init_76 ?_
  have hr := o_rfd_mk 16 22 0 (9 + 3) (S.1 16 24 3) S
  have ow := o_ow_s (t := 3) ow (by decide) (fun a b c e1 e2 => hw.2.2 a b c e1 (fun z => e2 ⟨z.1, z.2.1, z.2.2.1, z.2.2.2, by decide, by decide⟩)) hw.1 (fun _ _ a ha => hw.2.1 a ha) (fun z => absurd z (by decide)) hr
  have hS1 : s_rf S 16 22 0 12 (S.1 16 24 3) = s_rf S 16 22 0 (9 + 3) (S.1 16 24 3) := rfl
  rw [hS1]
  clear hS1 hw h22
  generalize s_rf S 16 22 0 (9 + 3) (S.1 16 24 3) = S at hr ow ⊢
  rw [← hr.1]
  have h22 := ow.2.1.1
  refine ca_aload_nr h dX13_init_79 rfl ?_
  refine ca_bipush h dX13_init_80 bk_8 ?_
  refine oa_newI 16 48 32 (n := 8) h hG (Or.inr ⟨16, 22, 0, h22⟩) rfl kw_67 rfl (by decide) ⟨by omega, by omega⟩ dX13_init_82 ?_
  intro S μ hw
  rw [← (hw.2.2 16 22 0 (by decide)).1]
  have h22 := (hw.2.2 16 22 0 (by decide)).2.1.mpr ow.2.1.1
  refine pr_X13_44 h h22 dX13_init_84 ?_
  have hr := o_rfd_mk 16 22 0 (9 + 4) (S.1 16 48 32) S
  have ow := o_ow_s (t := 4) ow (by decide) (fun a b c e1 e2 => hw.2.2 a b c e1) hw.1 (fun _ z => absurd z (by decide)) (fun _ _ b => (hw.2.1 b).1) hr
  have hS1 : s_rf S 16 22 0 13 (S.1 16 48 32) = s_rf S 16 22 0 (9 + 4) (S.1 16 48 32) := rfl
  rw [hS1]
  clear hS1 hw h22
  generalize s_rf S 16 22 0 (9 + 4) (S.1 16 48 32) = S at hr ow ⊢
  rw [← hr.1]
  have h22 := ow.2.1.1
  refine ca_aload_nr h dX13_init_87 rfl ?_
  refine ca_bipush h dX13_init_88 bk_8 ?_
  refine oa_newI 16 48 33 (n := 8) h hG (Or.inr ⟨16, 22, 0, h22⟩) rfl kw_67 rfl (by decide) ⟨by omega, by omega⟩ dX13_init_90 ?_
  intro S μ hw
  rw [← (hw.2.2 16 22 0 (by decide)).1]
  have h22 := (hw.2.2 16 22 0 (by decide)).2.1.mpr ow.2.1.1
  refine pr_X13_47 h h22 dX13_init_92 ?_
  have hr := o_rfd_mk 16 22 0 (9 + 5) (S.1 16 48 33) S
  have ow := o_ow_s (t := 5) ow (by decide) (fun a b c e1 e2 => hw.2.2 a b c e1) hw.1 (fun _ z => absurd z (by decide)) (fun _ _ b => (hw.2.1 b).1) hr
  have hS1 : s_rf S 16 22 0 14 (S.1 16 48 33) = s_rf S 16 22 0 (9 + 5) (S.1 16 48 33) := rfl
  rw [hS1]
  clear hS1 hw h22
  generalize s_rf S 16 22 0 (9 + 5) (S.1 16 48 33) = S at hr ow ⊢
  rw [← hr.1]
  have h22 := ow.2.1.1
  refine ca_aload_nr h dX13_init_95 rfl ?_
  refine ca_bipush h dX13_init_96 bk_12 ?_
  refine oa_newQ 16 25 0 h (n := 12) hG (Or.inr ⟨16, 22, 0, h22⟩) rfl (by decide) rfl kw_795 (by decide) rfl (by omega) ⟨by omega, by omega⟩ dX13_init_98 ?_
  intro S μ hw
  rw [← (hw.2.2 16 22 0 (by decide)).1]
  have h22 := (hw.2.2 16 22 0 (by decide)).2.1.mpr ow.2.1.1
  refine pr_X13_52 h h22 dX13_init_101 ?_
  have hr := o_rfd_mk 16 22 0 (9 + 6) (S.1 16 25 0) S
  have ow := o_ow_s (t := 6) ow (by decide) (fun a b c e1 e2 => hw.2.2 a b c e1) hw.1 (fun _ z => absurd z (by decide)) (fun _ z => absurd z (by decide)) hr
  have hS1 : s_rf S 16 22 0 15 (S.1 16 25 0) = s_rf S 16 22 0 (9 + 6) (S.1 16 25 0) := rfl
  rw [hS1]
  clear hS1 hw h22
  generalize s_rf S 16 22 0 (9 + 6) (S.1 16 25 0) = S at hr ow ⊢
  rw [← hr.1]
  have h22 := ow.2.1.1
  refine ca_widen (k := 31) (n := 256) (by omega) (by omega) ?_
  refine ca_vreturn h hR dX13_init_104 ?_
  obtain ⟨g1, g2⟩ := o_ow_St ow hF
  exact ⟨rfl, ow.1, ow.2.1.2.1, g1, g2, ow.2.1.2.2.trans hμ1.symm⟩
