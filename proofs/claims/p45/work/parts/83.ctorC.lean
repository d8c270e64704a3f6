set_option maxHeartbeats 1000000 in
theorem c_X11_init {l : Launch} {E : ch_E} {S : ch_S} {μ : ch_M}  (hv : S.2.1 15 11 0) (hz : μ 15 11 0 = fun _ => 0) (hf : ∀ a b c, ((a = 15 ∧ 11 ≤ b ∧ b ≤ 21 ∧ c = 0) ∨ (a < 15 ∧ PN0 b c)) → ¬ (a = 15 ∧ b = 11 ∧ c = 0) → ¬ S.2.1 a b c) : ch_C E l yX11_init cX11_init 1 (Option.none : Option Jvm.ClassFile.FieldType) 6 1975 25694 S μ [.ref (S.1 15 11 0)] (c_Post S μ (fun a b c => ((a = 15 ∧ 11 ≤ b ∧ b ≤ 21 ∧ c = 0) ∨ (a < 15 ∧ PN0 b c)))) := by
  refine ch_enter rfl rfl ?_
  intro X hl0 h hG hR hnm
  have h : ch_H X E RX11 cX11_init 1 := h
  have hb : ∀ {S' : ch_S}, S'.2.1 15 11 0 → ch_bs X E S' := fun z => Or.inr ⟨_, _, _, z⟩
  show ch_W X E 1 S μ 0 0 0 [(0, .ref (S.1 15 11 0))] []
  have np := NP_00 (μ := μ) hv
  obtain ⟨b0, e_b0⟩ : ∃ z, S.1 15 11 0 = z := ⟨_, rfl⟩
  rw [e_b0]
  have z_b0 := hz
  refine ca_aload_nr h dX11_init_0 rfl ?_
  refine ca_objI h hG kw_31 kw_32 kw_33 rfl rfl dX11_init_1 ?_
  refine ca_aload_nr h dX11_init_4 rfl ?_
  refine ca_newO h (ci := 10) 15 12 0 hG (hb (NP_v np (by omega))) rfl rfl li_X10 tyX10 tyX10_ok dvX10 rfl kw_34 kw_35 kw_2 ⟨by omega, by omega⟩ dX11_init_5 ?_
  intro o12
  obtain ⟨np', mv⟩ := NP_newO (q := o12) np (hf 15 12 0 (by (first | omega | (unfold PN0; omega) | simp)) (by omega)) (by show ¬ ((15) = 15 ∧ (12) = 11 ∧ (0) = 0); omega) (by show ¬ ((15) = (15) + 1); omega) (by intro j; show ¬ ((15) = (15) + 1); omega)
  replace e_b0 := mv 15 11 0 _ (NP_v np ⟨rfl, rfl, rfl⟩) e_b0
  have e_o12 := s_ad_s S 15 12 0 o12
  clear np mv
  generalize s_ad S 15 12 0 o12 = S1 at np' e_b0 e_o12 ⊢
  replace z_b0 := (ch_z_n (μ := μ) (k := 15) (kd := 12) (i := 0) (show ¬ (15 = 15 ∧ 11 = 12 ∧ 0 = 0) by omega)).trans z_b0
  generalize hz_ : ch_z μ 15 12 0 = μ1 at np' z_b0 ⊢
  have z_o12 : μ1 15 12 0 = fun _ => 0 := by rw [← hz_]; exact ch_z_0 _ _ _ _
  clear hz_
  have np := np'
  clear np'
  refine ca_dup h dX11_init_8 rfl ?_
  refine ca_tR e_o12 ?_
  refine ca_ctN h hG (List.mem_of_getElem? (i := 0) rfl) kw_37 kw_2 kw_38 ⟨by decide, by decide, by decide +kernel⟩ rfl (c_X10_init  (NP_v np (Or.inr ⟨rfl, rfl, rfl⟩)) (by exact z_o12) (fun a b c z z' => NP_nv np (hf a b c (Or.inl (by omega)) (by omega)) (fun y => by omega))) rfl rfl ⟨by omega, by omega⟩ rfl dX11_init_9 ?_
  intro S2 μ2 hp
  obtain ⟨np', mv⟩ := NP_callA np hp
  replace e_b0 := mv 15 11 0 _ (NP_v np (Or.inl ⟨rfl, rfl, rfl⟩)) e_b0
  replace e_o12 := mv 15 12 0 _ (NP_v np (Or.inr ⟨rfl, rfl, rfl⟩)) e_o12
  replace z_b0 := (hp.2.2.1 15 11 0 (by (first | omega | (unfold PN0; omega) | simp))).2.trans z_b0
  clear np mv hp
  have np := np'
  clear np'
  refine ca_putR (ci := 11) (j := 0) (ty := tyX11 0) h rfl rfl li_X11 tyX11 tyX11_ok nmX11 rfl (NP_v np (Or.inl (Or.inl ⟨rfl, rfl, rfl⟩))) e_b0 (by decide) rfl kw_369 rfl hnm rfl (tyX11_ok 0 (by decide)) rfl rfl dX11_init_12 ?_
  replace np := NP_rfA np (j := 0) (Or.inl (Or.inl ⟨rfl, rfl, rfl⟩)) (r := (15, 12, 0)) rfl (NP_v np (Or.inl (Or.inr ⟨rfl, rfl, rfl⟩))) e_o12
  replace e_b0 : (s_rf S2 15 11 0 0 o12).1 15 11 0 = b0 := e_b0
  replace e_o12 : (s_rf S2 15 11 0 0 o12).1 15 12 0 = o12 := e_o12
  generalize s_rf S2 15 11 0 0 o12 = S3 at np e_b0 e_o12 ⊢
  refine ca_aload_nr h dX11_init_15 rfl ?_
  refine ca_newO h (ci := 3) 0 0 0 hG (hb (NP_v np (by omega))) rfl rfl li_X3 tyX3 tyX3_ok dvX3 rfl kw_68 kw_69 kw_3 ⟨by omega, by omega⟩ dX11_init_16 ?_
  intro o0
  obtain ⟨np', mv⟩ := NP_newO (q := o0) np (hf 0 0 0 (by (first | omega | (unfold PN0; omega) | simp)) (by omega)) (by show ¬ ((((0) = 15 ∧ (0) = 11 ∧ (0) = 0) ∨ ((0) = 15 ∧ (0) = 12 ∧ (0) = 0)) ∨ ((0) = 15 ∧ 12 ≤ (0) ∧ (0) ≤ 13 ∧ (0) = 0)); omega) (by show ¬ (((0) = (0) + 1) ∨ ((0) = 15 ∧ 12 ≤ (0) ∧ (0) ≤ 13 ∧ (0) = 0)); omega) (by intro j; show ¬ ((((0) = (0) + 1) ∨ ((0) = 15 ∧ 12 ≤ (0) ∧ (0) ≤ 13 ∧ (0) = 0)) ∨ ((0) = 15 ∧ (0) = 11 ∧ (0) = 0 ∧ (j) = 0)); omega)
  replace e_b0 := mv 15 11 0 _ (NP_v np (Or.inl (Or.inl ⟨rfl, rfl, rfl⟩))) e_b0
  replace e_o12 := mv 15 12 0 _ (NP_v np (Or.inl (Or.inr ⟨rfl, rfl, rfl⟩))) e_o12
  have e_o0 := s_ad_s S3 0 0 0 o0
  clear np mv
  generalize s_ad S3 0 0 0 o0 = S4 at np' e_b0 e_o12 e_o0 ⊢
  replace z_b0 := (ch_z_n (μ := μ2) (k := 0) (kd := 0) (i := 0) (show ¬ (15 = 0 ∧ 11 = 0 ∧ 0 = 0) by omega)).trans z_b0
  generalize hz_ : ch_z μ2 0 0 0 = μ4 at np' z_b0 ⊢
  have z_o0 : μ4 0 0 0 = fun _ => 0 := by rw [← hz_]; exact ch_z_0 _ _ _ _
  clear hz_
  have np := np'
  clear np'
  refine ca_dup h dX11_init_19 rfl ?_
  refine ca_tR e_o0 ?_
  refine ca_ctI h hG kw_70 kw_71 kw_3 kw_72 ⟨by decide, by decide, by decide +kernel⟩ rfl (c_X3_init  (NP_v np (Or.inr ⟨rfl, rfl, rfl⟩)) (by exact z_o0) (fun a b c z z' => NP_nv np (hf a b c (Or.inr ⟨by omega, z.2⟩) (by omega)) (fun y => by omega))) rfl rfl ⟨by omega, by omega⟩ rfl dX11_init_20 ?_
  intro S5 μ5 hp
  obtain ⟨np', mv⟩ := NP_callA np hp
  replace e_b0 := mv 15 11 0 _ (NP_v np (Or.inl (Or.inl (Or.inl ⟨rfl, rfl, rfl⟩)))) e_b0
  replace e_o12 := mv 15 12 0 _ (NP_v np (Or.inl (Or.inl (Or.inr ⟨rfl, rfl, rfl⟩)))) e_o12
  replace e_o0 := mv 0 0 0 _ (NP_v np (Or.inr ⟨rfl, rfl, rfl⟩)) e_o0
  replace z_b0 := (hp.2.2.1 15 11 0 (by (first | omega | (unfold PN0; omega) | simp))).2.trans z_b0
  clear np mv hp
  have np := np'
  clear np'
  refine ca_putR (ci := 11) (j := 1) (ty := tyX11 1) h rfl rfl li_X11 tyX11 tyX11_ok nmX11 rfl (NP_v np (Or.inl (Or.inl (Or.inl (Or.inl ⟨rfl, rfl, rfl⟩))))) e_b0 (by decide) rfl kw_370 rfl hnm rfl (tyX11_ok 1 (by decide)) rfl rfl dX11_init_23 ?_
  replace np := NP_rfA np (j := 1) (Or.inl (Or.inl (Or.inl (Or.inl ⟨rfl, rfl, rfl⟩)))) (r := (0, 0, 0)) rfl (NP_v np (Or.inl (Or.inr ⟨rfl, rfl, rfl⟩))) e_o0
  replace e_b0 : (s_rf S5 15 11 0 1 o0).1 15 11 0 = b0 := e_b0
  replace e_o12 : (s_rf S5 15 11 0 1 o0).1 15 12 0 = o12 := e_o12
  replace e_o0 : (s_rf S5 15 11 0 1 o0).1 0 0 0 = o0 := e_o0
  generalize s_rf S5 15 11 0 1 o0 = S6 at np e_b0 e_o12 e_o0 ⊢
  refine ca_aload_nr h dX11_init_26 rfl ?_
  refine ca_newO h (ci := 3) 1 0 0 hG (hb (NP_v np (by omega))) rfl rfl li_X3 tyX3 tyX3_ok dvX3 rfl kw_68 kw_69 kw_3 ⟨by omega, by omega⟩ dX11_init_27 ?_
  intro o1
  obtain ⟨np', mv⟩ := NP_newO (q := o1) np (hf 1 0 0 (by (first | omega | (unfold PN0; omega) | simp)) (by omega)) (by show ¬ ((((((1) = 15 ∧ (0) = 11 ∧ (0) = 0) ∨ ((1) = 15 ∧ (0) = 12 ∧ (0) = 0)) ∨ ((1) = 15 ∧ 12 ≤ (0) ∧ (0) ≤ 13 ∧ (0) = 0)) ∨ ((1) = 0 ∧ (0) = 0 ∧ (0) = 0)) ∨ ((1) = 0 ∧ PN0 (0) (0))); omega) (by show ¬ ((((1) = (1) + 1) ∨ ((1) = 15 ∧ 12 ≤ (0) ∧ (0) ≤ 13 ∧ (0) = 0)) ∨ ((1) = 0 ∧ PN0 (0) (0))); omega) (by intro j; show ¬ ((((((1) = (1) + 1) ∨ ((1) = 15 ∧ 12 ≤ (0) ∧ (0) ≤ 13 ∧ (0) = 0)) ∨ ((1) = 15 ∧ (0) = 11 ∧ (0) = 0 ∧ (j) = 0)) ∨ ((1) = 0 ∧ PN0 (0) (0))) ∨ ((1) = 15 ∧ (0) = 11 ∧ (0) = 0 ∧ (j) = 1)); omega)
  replace e_b0 := mv 15 11 0 _ (NP_v np (Or.inl (Or.inl (Or.inl (Or.inl ⟨rfl, rfl, rfl⟩))))) e_b0
  replace e_o12 := mv 15 12 0 _ (NP_v np (Or.inl (Or.inl (Or.inl (Or.inr ⟨rfl, rfl, rfl⟩))))) e_o12
  replace e_o0 := mv 0 0 0 _ (NP_v np (Or.inl (Or.inr ⟨rfl, rfl, rfl⟩))) e_o0
  have e_o1 := s_ad_s S6 1 0 0 o1
  clear np mv
  generalize s_ad S6 1 0 0 o1 = S7 at np' e_b0 e_o12 e_o0 e_o1 ⊢
  replace z_b0 := (ch_z_n (μ := μ5) (k := 1) (kd := 0) (i := 0) (show ¬ (15 = 1 ∧ 11 = 0 ∧ 0 = 0) by omega)).trans z_b0
  generalize hz_ : ch_z μ5 1 0 0 = μ7 at np' z_b0 ⊢
  have z_o1 : μ7 1 0 0 = fun _ => 0 := by rw [← hz_]; exact ch_z_0 _ _ _ _
  clear hz_
  have np := np'
  clear np'
  refine ca_dup h dX11_init_30 rfl ?_
  refine ca_tR e_o1 ?_
  refine ca_ctI h hG kw_70 kw_71 kw_3 kw_72 ⟨by decide, by decide, by decide +kernel⟩ rfl (c_X3_init  (NP_v np (Or.inr ⟨rfl, rfl, rfl⟩)) (by exact z_o1) (fun a b c z z' => NP_nv np (hf a b c (Or.inr ⟨by omega, z.2⟩) (by omega)) (fun y => by omega))) rfl rfl ⟨by omega, by omega⟩ rfl dX11_init_31 ?_
  intro S8 μ8 hp
  obtain ⟨np', mv⟩ := NP_callA np hp
  replace e_b0 := mv 15 11 0 _ (NP_v np (Or.inl (Or.inl (Or.inl (Or.inl (Or.inl ⟨rfl, rfl, rfl⟩)))))) e_b0
  replace e_o12 := mv 15 12 0 _ (NP_v np (Or.inl (Or.inl (Or.inl (Or.inl (Or.inr ⟨rfl, rfl, rfl⟩)))))) e_o12
  replace e_o0 := mv 0 0 0 _ (NP_v np (Or.inl (Or.inl (Or.inr ⟨rfl, rfl, rfl⟩)))) e_o0
  replace e_o1 := mv 1 0 0 _ (NP_v np (Or.inr ⟨rfl, rfl, rfl⟩)) e_o1
  replace z_b0 := (hp.2.2.1 15 11 0 (by (first | omega | (unfold PN0; omega) | simp))).2.trans z_b0
  clear np mv hp
  have np := np'
  clear np'
  refine ca_putR (ci := 11) (j := 2) (ty := tyX11 2) h rfl rfl li_X11 tyX11 tyX11_ok nmX11 rfl (NP_v np (Or.inl (Or.inl (Or.inl (Or.inl (Or.inl (Or.inl ⟨rfl, rfl, rfl⟩))))))) e_b0 (by decide) rfl kw_371 rfl hnm rfl (tyX11_ok 2 (by decide)) rfl rfl dX11_init_34 ?_
  replace np := NP_rfA np (j := 2) (Or.inl (Or.inl (Or.inl (Or.inl (Or.inl (Or.inl ⟨rfl, rfl, rfl⟩)))))) (r := (1, 0, 0)) rfl (NP_v np (Or.inl (Or.inr ⟨rfl, rfl, rfl⟩))) e_o1
  replace e_b0 : (s_rf S8 15 11 0 2 o1).1 15 11 0 = b0 := e_b0
  replace e_o12 : (s_rf S8 15 11 0 2 o1).1 15 12 0 = o12 := e_o12
  replace e_o0 : (s_rf S8 15 11 0 2 o1).1 0 0 0 = o0 := e_o0
  replace e_o1 : (s_rf S8 15 11 0 2 o1).1 1 0 0 = o1 := e_o1
  generalize s_rf S8 15 11 0 2 o1 = S9 at np e_b0 e_o12 e_o0 e_o1 ⊢
  refine ca_aload_nr h dX11_init_37 rfl ?_
  refine ca_newO h (ci := 3) 2 0 0 hG (hb (NP_v np (by omega))) rfl rfl li_X3 tyX3 tyX3_ok dvX3 rfl kw_68 kw_69 kw_3 ⟨by omega, by omega⟩ dX11_init_38 ?_
  intro o2
  obtain ⟨np', mv⟩ := NP_newO (q := o2) np (hf 2 0 0 (by (first | omega | (unfold PN0; omega) | simp)) (by omega)) (by show ¬ ((((((((2) = 15 ∧ (0) = 11 ∧ (0) = 0) ∨ ((2) = 15 ∧ (0) = 12 ∧ (0) = 0)) ∨ ((2) = 15 ∧ 12 ≤ (0) ∧ (0) ≤ 13 ∧ (0) = 0)) ∨ ((2) = 0 ∧ (0) = 0 ∧ (0) = 0)) ∨ ((2) = 0 ∧ PN0 (0) (0))) ∨ ((2) = 1 ∧ (0) = 0 ∧ (0) = 0)) ∨ ((2) = 1 ∧ PN0 (0) (0))); omega) (by show ¬ (((((2) = (2) + 1) ∨ ((2) = 15 ∧ 12 ≤ (0) ∧ (0) ≤ 13 ∧ (0) = 0)) ∨ ((2) = 0 ∧ PN0 (0) (0))) ∨ ((2) = 1 ∧ PN0 (0) (0))); omega) (by intro j; show ¬ ((((((((2) = (2) + 1) ∨ ((2) = 15 ∧ 12 ≤ (0) ∧ (0) ≤ 13 ∧ (0) = 0)) ∨ ((2) = 15 ∧ (0) = 11 ∧ (0) = 0 ∧ (j) = 0)) ∨ ((2) = 0 ∧ PN0 (0) (0))) ∨ ((2) = 15 ∧ (0) = 11 ∧ (0) = 0 ∧ (j) = 1)) ∨ ((2) = 1 ∧ PN0 (0) (0))) ∨ ((2) = 15 ∧ (0) = 11 ∧ (0) = 0 ∧ (j) = 2)); omega)
  replace e_b0 := mv 15 11 0 _ (NP_v np (Or.inl (Or.inl (Or.inl (Or.inl (Or.inl (Or.inl ⟨rfl, rfl, rfl⟩))))))) e_b0
  replace e_o12 := mv 15 12 0 _ (NP_v np (Or.inl (Or.inl (Or.inl (Or.inl (Or.inl (Or.inr ⟨rfl, rfl, rfl⟩))))))) e_o12
  replace e_o0 := mv 0 0 0 _ (NP_v np (Or.inl (Or.inl (Or.inl (Or.inr ⟨rfl, rfl, rfl⟩))))) e_o0
  replace e_o1 := mv 1 0 0 _ (NP_v np (Or.inl (Or.inr ⟨rfl, rfl, rfl⟩))) e_o1
  have e_o2 := s_ad_s S9 2 0 0 o2
  clear np mv
  generalize s_ad S9 2 0 0 o2 = S10 at np' e_b0 e_o12 e_o0 e_o1 e_o2 ⊢
  replace z_b0 := (ch_z_n (μ := μ8) (k := 2) (kd := 0) (i := 0) (show ¬ (15 = 2 ∧ 11 = 0 ∧ 0 = 0) by omega)).trans z_b0
  generalize hz_ : ch_z μ8 2 0 0 = μ10 at np' z_b0 ⊢
  have z_o2 : μ10 2 0 0 = fun _ => 0 := by rw [← hz_]; exact ch_z_0 _ _ _ _
  clear hz_
  have np := np'
  clear np'
  refine ca_dup h dX11_init_41 rfl ?_
  refine ca_tR e_o2 ?_
  refine ca_ctI h hG kw_70 kw_71 kw_3 kw_72 ⟨by decide, by decide, by decide +kernel⟩ rfl (c_X3_init  (NP_v np (Or.inr ⟨rfl, rfl, rfl⟩)) (by exact z_o2) (fun a b c z z' => NP_nv np (hf a b c (Or.inr ⟨by omega, z.2⟩) (by omega)) (fun y => by omega))) rfl rfl ⟨by omega, by omega⟩ rfl dX11_init_42 ?_
  intro S11 μ11 hp
  obtain ⟨np', mv⟩ := NP_callA np hp
  replace e_b0 := mv 15 11 0 _ (NP_v np (Or.inl (Or.inl (Or.inl (Or.inl (Or.inl (Or.inl (Or.inl ⟨rfl, rfl, rfl⟩)))))))) e_b0
  replace e_o12 := mv 15 12 0 _ (NP_v np (Or.inl (Or.inl (Or.inl (Or.inl (Or.inl (Or.inl (Or.inr ⟨rfl, rfl, rfl⟩)))))))) e_o12
  replace e_o0 := mv 0 0 0 _ (NP_v np (Or.inl (Or.inl (Or.inl (Or.inl (Or.inr ⟨rfl, rfl, rfl⟩)))))) e_o0
  replace e_o1 := mv 1 0 0 _ (NP_v np (Or.inl (Or.inl (Or.inr ⟨rfl, rfl, rfl⟩)))) e_o1
  replace e_o2 := mv 2 0 0 _ (NP_v np (Or.inr ⟨rfl, rfl, rfl⟩)) e_o2
  replace z_b0 := (hp.2.2.1 15 11 0 (by (first | omega | (unfold PN0; omega) | simp))).2.trans z_b0
  clear np mv hp
  have np := np'
  clear np'
  refine ca_putR (ci := 11) (j := 3) (ty := tyX11 3) h rfl rfl li_X11 tyX11 tyX11_ok nmX11 rfl (NP_v np (Or.inl (Or.inl (Or.inl (Or.inl (Or.inl (Or.inl (Or.inl (Or.inl ⟨rfl, rfl, rfl⟩))))))))) e_b0 (by decide) rfl kw_372 rfl hnm rfl (tyX11_ok 3 (by decide)) rfl rfl dX11_init_45 ?_
  replace np := NP_rfA np (j := 3) (Or.inl (Or.inl (Or.inl (Or.inl (Or.inl (Or.inl (Or.inl (Or.inl ⟨rfl, rfl, rfl⟩)))))))) (r := (2, 0, 0)) rfl (NP_v np (Or.inl (Or.inr ⟨rfl, rfl, rfl⟩))) e_o2
  replace e_b0 : (s_rf S11 15 11 0 3 o2).1 15 11 0 = b0 := e_b0
  replace e_o12 : (s_rf S11 15 11 0 3 o2).1 15 12 0 = o12 := e_o12
  replace e_o0 : (s_rf S11 15 11 0 3 o2).1 0 0 0 = o0 := e_o0
  replace e_o1 : (s_rf S11 15 11 0 3 o2).1 1 0 0 = o1 := e_o1
  replace e_o2 : (s_rf S11 15 11 0 3 o2).1 2 0 0 = o2 := e_o2
  generalize s_rf S11 15 11 0 3 o2 = S12 at np e_b0 e_o12 e_o0 e_o1 e_o2 ⊢
  refine ca_aload_nr h dX11_init_48 rfl ?_
  refine ca_newO h (ci := 1) 15 14 0 hG (hb (NP_v np (by omega))) rfl rfl li_X1 tyX1 tyX1_ok dvX1 rfl kw_308 kw_309 kw_7 ⟨by omega, by omega⟩ dX11_init_49 ?_
  intro o14
  obtain ⟨np', mv⟩ := NP_newO (q := o14) np (hf 15 14 0 (by (first | omega | (unfold PN0; omega) | simp)) (by omega)) (by show ¬ ((((((((((15) = 15 ∧ (14) = 11 ∧ (0) = 0) ∨ ((15) = 15 ∧ (14) = 12 ∧ (0) = 0)) ∨ ((15) = 15 ∧ 12 ≤ (14) ∧ (14) ≤ 13 ∧ (0) = 0)) ∨ ((15) = 0 ∧ (14) = 0 ∧ (0) = 0)) ∨ ((15) = 0 ∧ PN0 (14) (0))) ∨ ((15) = 1 ∧ (14) = 0 ∧ (0) = 0)) ∨ ((15) = 1 ∧ PN0 (14) (0))) ∨ ((15) = 2 ∧ (14) = 0 ∧ (0) = 0)) ∨ ((15) = 2 ∧ PN0 (14) (0))); omega) (by show ¬ ((((((15) = (15) + 1) ∨ ((15) = 15 ∧ 12 ≤ (14) ∧ (14) ≤ 13 ∧ (0) = 0)) ∨ ((15) = 0 ∧ PN0 (14) (0))) ∨ ((15) = 1 ∧ PN0 (14) (0))) ∨ ((15) = 2 ∧ PN0 (14) (0))); omega) (by intro j; show ¬ ((((((((((15) = (15) + 1) ∨ ((15) = 15 ∧ 12 ≤ (14) ∧ (14) ≤ 13 ∧ (0) = 0)) ∨ ((15) = 15 ∧ (14) = 11 ∧ (0) = 0 ∧ (j) = 0)) ∨ ((15) = 0 ∧ PN0 (14) (0))) ∨ ((15) = 15 ∧ (14) = 11 ∧ (0) = 0 ∧ (j) = 1)) ∨ ((15) = 1 ∧ PN0 (14) (0))) ∨ ((15) = 15 ∧ (14) = 11 ∧ (0) = 0 ∧ (j) = 2)) ∨ ((15) = 2 ∧ PN0 (14) (0))) ∨ ((15) = 15 ∧ (14) = 11 ∧ (0) = 0 ∧ (j) = 3)); omega)
  replace e_b0 := mv 15 11 0 _ (NP_v np (Or.inl (Or.inl (Or.inl (Or.inl (Or.inl (Or.inl (Or.inl (Or.inl ⟨rfl, rfl, rfl⟩))))))))) e_b0
  replace e_o12 := mv 15 12 0 _ (NP_v np (Or.inl (Or.inl (Or.inl (Or.inl (Or.inl (Or.inl (Or.inl (Or.inr ⟨rfl, rfl, rfl⟩))))))))) e_o12
  replace e_o0 := mv 0 0 0 _ (NP_v np (Or.inl (Or.inl (Or.inl (Or.inl (Or.inl (Or.inr ⟨rfl, rfl, rfl⟩))))))) e_o0
  replace e_o1 := mv 1 0 0 _ (NP_v np (Or.inl (Or.inl (Or.inl (Or.inr ⟨rfl, rfl, rfl⟩))))) e_o1
  replace e_o2 := mv 2 0 0 _ (NP_v np (Or.inl (Or.inr ⟨rfl, rfl, rfl⟩))) e_o2
  have e_o14 := s_ad_s S12 15 14 0 o14
  clear np mv
  generalize s_ad S12 15 14 0 o14 = S13 at np' e_b0 e_o12 e_o0 e_o1 e_o2 e_o14 ⊢
  replace z_b0 := (ch_z_n (μ := μ11) (k := 15) (kd := 14) (i := 0) (show ¬ (15 = 15 ∧ 11 = 14 ∧ 0 = 0) by omega)).trans z_b0
  generalize hz_ : ch_z μ11 15 14 0 = μ13 at np' z_b0 ⊢
  have z_o14 : μ13 15 14 0 = fun _ => 0 := by rw [← hz_]; exact ch_z_0 _ _ _ _
  clear hz_
  have np := np'
  clear np'
  refine ca_dup h dX11_init_52 rfl ?_
  refine ca_tR e_o14 ?_
  refine ca_ctI h hG kw_310 kw_311 kw_7 kw_312 ⟨by decide, by decide, by decide +kernel⟩ rfl (c_X1_init  (NP_v np (Or.inr ⟨rfl, rfl, rfl⟩)) (by exact z_o14) (fun a b c z z' => NP_nv np (hf a b c (by rcases z with z | z; exact Or.inl (by omega); exact Or.inr z.2) (by omega)) (fun y => by omega))) rfl rfl ⟨by omega, by omega⟩ rfl dX11_init_53 ?_
  intro S14 μ14 hp
  obtain ⟨np', mv⟩ := NP_callA np hp
  replace e_b0 := mv 15 11 0 _ (NP_v np (Or.inl (Or.inl (Or.inl (Or.inl (Or.inl (Or.inl (Or.inl (Or.inl (Or.inl ⟨rfl, rfl, rfl⟩)))))))))) e_b0
  replace e_o12 := mv 15 12 0 _ (NP_v np (Or.inl (Or.inl (Or.inl (Or.inl (Or.inl (Or.inl (Or.inl (Or.inl (Or.inr ⟨rfl, rfl, rfl⟩)))))))))) e_o12
  replace e_o0 := mv 0 0 0 _ (NP_v np (Or.inl (Or.inl (Or.inl (Or.inl (Or.inl (Or.inl (Or.inr ⟨rfl, rfl, rfl⟩)))))))) e_o0
  replace e_o1 := mv 1 0 0 _ (NP_v np (Or.inl (Or.inl (Or.inl (Or.inl (Or.inr ⟨rfl, rfl, rfl⟩)))))) e_o1
  replace e_o2 := mv 2 0 0 _ (NP_v np (Or.inl (Or.inl (Or.inr ⟨rfl, rfl, rfl⟩)))) e_o2
  replace e_o14 := mv 15 14 0 _ (NP_v np (Or.inr ⟨rfl, rfl, rfl⟩)) e_o14
  replace z_b0 := (hp.2.2.1 15 11 0 (by (first | omega | (unfold PN0; omega) | simp))).2.trans z_b0
  clear np mv hp
  have np := np'
  clear np'
  refine ca_putR (ci := 11) (j := 4) (ty := tyX11 4) h rfl rfl li_X11 tyX11 tyX11_ok nmX11 rfl (NP_v np (Or.inl (Or.inl (Or.inl (Or.inl (Or.inl (Or.inl (Or.inl (Or.inl (Or.inl (Or.inl ⟨rfl, rfl, rfl⟩))))))))))) e_b0 (by decide) rfl kw_373 rfl hnm rfl (tyX11_ok 4 (by decide)) rfl rfl dX11_init_56 ?_
  replace np := NP_rfA np (j := 4) (Or.inl (Or.inl (Or.inl (Or.inl (Or.inl (Or.inl (Or.inl (Or.inl (Or.inl (Or.inl ⟨rfl, rfl, rfl⟩)))))))))) (r := (15, 14, 0)) rfl (NP_v np (Or.inl (Or.inr ⟨rfl, rfl, rfl⟩))) e_o14
  replace e_b0 : (s_rf S14 15 11 0 4 o14).1 15 11 0 = b0 := e_b0
  replace e_o12 : (s_rf S14 15 11 0 4 o14).1 15 12 0 = o12 := e_o12
  replace e_o0 : (s_rf S14 15 11 0 4 o14).1 0 0 0 = o0 := e_o0
  replace e_o1 : (s_rf S14 15 11 0 4 o14).1 1 0 0 = o1 := e_o1
  replace e_o2 : (s_rf S14 15 11 0 4 o14).1 2 0 0 = o2 := e_o2
  replace e_o14 : (s_rf S14 15 11 0 4 o14).1 15 14 0 = o14 := e_o14
  generalize s_rf S14 15 11 0 4 o14 = S15 at np e_b0 e_o12 e_o0 e_o1 e_o2 e_o14 ⊢
  refine ca_aload_nr h dX11_init_59 rfl ?_
  refine ca_newO h (ci := 8) 15 16 0 hG (hb (NP_v np (by omega))) rfl rfl li_X8 tyX8 tyX8_ok dvX8 rfl kw_328 kw_329 kw_8 ⟨by omega, by omega⟩ dX11_init_60 ?_
  intro o16
  obtain ⟨np', mv⟩ := NP_newO (q := o16) np (hf 15 16 0 (by (first | omega | (unfold PN0; omega) | simp)) (by omega)) (by show ¬ ((((((((((((15) = 15 ∧ (16) = 11 ∧ (0) = 0) ∨ ((15) = 15 ∧ (16) = 12 ∧ (0) = 0)) ∨ ((15) = 15 ∧ 12 ≤ (16) ∧ (16) ≤ 13 ∧ (0) = 0)) ∨ ((15) = 0 ∧ (16) = 0 ∧ (0) = 0)) ∨ ((15) = 0 ∧ PN0 (16) (0))) ∨ ((15) = 1 ∧ (16) = 0 ∧ (0) = 0)) ∨ ((15) = 1 ∧ PN0 (16) (0))) ∨ ((15) = 2 ∧ (16) = 0 ∧ (0) = 0)) ∨ ((15) = 2 ∧ PN0 (16) (0))) ∨ ((15) = 15 ∧ (16) = 14 ∧ (0) = 0)) ∨ (((15) = 15 ∧ 14 ≤ (16) ∧ (16) ≤ 15 ∧ (0) = 0) ∨ (3 ≤ (15) ∧ (15) < 15 ∧ PN0 (16) (0)))); omega) (by show ¬ (((((((15) = (15) + 1) ∨ ((15) = 15 ∧ 12 ≤ (16) ∧ (16) ≤ 13 ∧ (0) = 0)) ∨ ((15) = 0 ∧ PN0 (16) (0))) ∨ ((15) = 1 ∧ PN0 (16) (0))) ∨ ((15) = 2 ∧ PN0 (16) (0))) ∨ (((15) = 15 ∧ 14 ≤ (16) ∧ (16) ≤ 15 ∧ (0) = 0) ∨ (3 ≤ (15) ∧ (15) < 15 ∧ PN0 (16) (0)))); omega) (by intro j; show ¬ ((((((((((((15) = (15) + 1) ∨ ((15) = 15 ∧ 12 ≤ (16) ∧ (16) ≤ 13 ∧ (0) = 0)) ∨ ((15) = 15 ∧ (16) = 11 ∧ (0) = 0 ∧ (j) = 0)) ∨ ((15) = 0 ∧ PN0 (16) (0))) ∨ ((15) = 15 ∧ (16) = 11 ∧ (0) = 0 ∧ (j) = 1)) ∨ ((15) = 1 ∧ PN0 (16) (0))) ∨ ((15) = 15 ∧ (16) = 11 ∧ (0) = 0 ∧ (j) = 2)) ∨ ((15) = 2 ∧ PN0 (16) (0))) ∨ ((15) = 15 ∧ (16) = 11 ∧ (0) = 0 ∧ (j) = 3)) ∨ (((15) = 15 ∧ 14 ≤ (16) ∧ (16) ≤ 15 ∧ (0) = 0) ∨ (3 ≤ (15) ∧ (15) < 15 ∧ PN0 (16) (0)))) ∨ ((15) = 15 ∧ (16) = 11 ∧ (0) = 0 ∧ (j) = 4)); omega)
  replace e_b0 := mv 15 11 0 _ (NP_v np (Or.inl (Or.inl (Or.inl (Or.inl (Or.inl (Or.inl (Or.inl (Or.inl (Or.inl (Or.inl ⟨rfl, rfl, rfl⟩))))))))))) e_b0
  replace e_o12 := mv 15 12 0 _ (NP_v np (Or.inl (Or.inl (Or.inl (Or.inl (Or.inl (Or.inl (Or.inl (Or.inl (Or.inl (Or.inr ⟨rfl, rfl, rfl⟩))))))))))) e_o12
  replace e_o0 := mv 0 0 0 _ (NP_v np (Or.inl (Or.inl (Or.inl (Or.inl (Or.inl (Or.inl (Or.inl (Or.inr ⟨rfl, rfl, rfl⟩))))))))) e_o0
  replace e_o1 := mv 1 0 0 _ (NP_v np (Or.inl (Or.inl (Or.inl (Or.inl (Or.inl (Or.inr ⟨rfl, rfl, rfl⟩))))))) e_o1
  replace e_o2 := mv 2 0 0 _ (NP_v np (Or.inl (Or.inl (Or.inl (Or.inr ⟨rfl, rfl, rfl⟩))))) e_o2
  replace e_o14 := mv 15 14 0 _ (NP_v np (Or.inl (Or.inr ⟨rfl, rfl, rfl⟩))) e_o14
  have e_o16 := s_ad_s S15 15 16 0 o16
  clear np mv
  generalize s_ad S15 15 16 0 o16 = S16 at np' e_b0 e_o12 e_o0 e_o1 e_o2 e_o14 e_o16 ⊢
  replace z_b0 := (ch_z_n (μ := μ14) (k := 15) (kd := 16) (i := 0) (show ¬ (15 = 15 ∧ 11 = 16 ∧ 0 = 0) by omega)).trans z_b0
  generalize hz_ : ch_z μ14 15 16 0 = μ16 at np' z_b0 ⊢
  have z_o16 : μ16 15 16 0 = fun _ => 0 := by rw [← hz_]; exact ch_z_0 _ _ _ _
  clear hz_
  have np := np'
  clear np'
  refine ca_dup h dX11_init_63 rfl ?_
  refine ca_tR e_o16 ?_
  refine ca_ctN h hG (List.mem_of_getElem? (i := 3) rfl) kw_331 kw_8 kw_332 ⟨by decide, by decide, by decide +kernel⟩ rfl (c_X8_init  (NP_v np (Or.inr ⟨rfl, rfl, rfl⟩)) (by exact z_o16) (fun a b c z z' => NP_nv np (hf a b c (Or.inl (by omega)) (by omega)) (fun y => by omega))) rfl rfl ⟨by omega, by omega⟩ rfl dX11_init_64 ?_
  intro S17 μ17 hp
  obtain ⟨np', mv⟩ := NP_callA np hp
  replace e_b0 := mv 15 11 0 _ (NP_v np (Or.inl (Or.inl (Or.inl (Or.inl (Or.inl (Or.inl (Or.inl (Or.inl (Or.inl (Or.inl (Or.inl ⟨rfl, rfl, rfl⟩)))))))))))) e_b0
  replace e_o12 := mv 15 12 0 _ (NP_v np (Or.inl (Or.inl (Or.inl (Or.inl (Or.inl (Or.inl (Or.inl (Or.inl (Or.inl (Or.inl (Or.inr ⟨rfl, rfl, rfl⟩)))))))))))) e_o12
  replace e_o0 := mv 0 0 0 _ (NP_v np (Or.inl (Or.inl (Or.inl (Or.inl (Or.inl (Or.inl (Or.inl (Or.inl (Or.inr ⟨rfl, rfl, rfl⟩)))))))))) e_o0
  replace e_o1 := mv 1 0 0 _ (NP_v np (Or.inl (Or.inl (Or.inl (Or.inl (Or.inl (Or.inl (Or.inr ⟨rfl, rfl, rfl⟩)))))))) e_o1
  replace e_o2 := mv 2 0 0 _ (NP_v np (Or.inl (Or.inl (Or.inl (Or.inl (Or.inr ⟨rfl, rfl, rfl⟩)))))) e_o2
  replace e_o14 := mv 15 14 0 _ (NP_v np (Or.inl (Or.inl (Or.inr ⟨rfl, rfl, rfl⟩)))) e_o14
  replace e_o16 := mv 15 16 0 _ (NP_v np (Or.inr ⟨rfl, rfl, rfl⟩)) e_o16
  replace z_b0 := (hp.2.2.1 15 11 0 (by (first | omega | (unfold PN0; omega) | simp))).2.trans z_b0
  clear np mv hp
  have np := np'
  clear np'
  refine ca_putR (ci := 11) (j := 5) (ty := tyX11 5) h rfl rfl li_X11 tyX11 tyX11_ok nmX11 rfl (NP_v np (Or.inl (Or.inl (Or.inl (Or.inl (Or.inl (Or.inl (Or.inl (Or.inl (Or.inl (Or.inl (Or.inl (Or.inl ⟨rfl, rfl, rfl⟩))))))))))))) e_b0 (by decide) rfl kw_374 rfl hnm rfl (tyX11_ok 5 (by decide)) rfl rfl dX11_init_67 ?_
  replace np := NP_rfA np (j := 5) (Or.inl (Or.inl (Or.inl (Or.inl (Or.inl (Or.inl (Or.inl (Or.inl (Or.inl (Or.inl (Or.inl (Or.inl ⟨rfl, rfl, rfl⟩)))))))))))) (r := (15, 16, 0)) rfl (NP_v np (Or.inl (Or.inr ⟨rfl, rfl, rfl⟩))) e_o16
  replace e_b0 : (s_rf S17 15 11 0 5 o16).1 15 11 0 = b0 := e_b0
  replace e_o12 : (s_rf S17 15 11 0 5 o16).1 15 12 0 = o12 := e_o12
  replace e_o0 : (s_rf S17 15 11 0 5 o16).1 0 0 0 = o0 := e_o0
  replace e_o1 : (s_rf S17 15 11 0 5 o16).1 1 0 0 = o1 := e_o1
  replace e_o2 : (s_rf S17 15 11 0 5 o16).1 2 0 0 = o2 := e_o2
  replace e_o14 : (s_rf S17 15 11 0 5 o16).1 15 14 0 = o14 := e_o14
  replace e_o16 : (s_rf S17 15 11 0 5 o16).1 15 16 0 = o16 := e_o16
  generalize s_rf S17 15 11 0 5 o16 = S18 at np e_b0 e_o12 e_o0 e_o1 e_o2 e_o14 e_o16 ⊢
  refine ca_aload_nr h dX11_init_70 rfl ?_
  refine ca_newO h (ci := 9) 15 20 0 hG (hb (NP_v np (by omega))) rfl rfl li_X9 tyX9 tyX9_ok dvX9 rfl kw_359 kw_360 kw_10 ⟨by omega, by omega⟩ dX11_init_71 ?_
  intro o20
  obtain ⟨np', mv⟩ := NP_newO (q := o20) np (hf 15 20 0 (by (first | omega | (unfold PN0; omega) | simp)) (by omega)) (by show ¬ ((((((((((((((15) = 15 ∧ (20) = 11 ∧ (0) = 0) ∨ ((15) = 15 ∧ (20) = 12 ∧ (0) = 0)) ∨ ((15) = 15 ∧ 12 ≤ (20) ∧ (20) ≤ 13 ∧ (0) = 0)) ∨ ((15) = 0 ∧ (20) = 0 ∧ (0) = 0)) ∨ ((15) = 0 ∧ PN0 (20) (0))) ∨ ((15) = 1 ∧ (20) = 0 ∧ (0) = 0)) ∨ ((15) = 1 ∧ PN0 (20) (0))) ∨ ((15) = 2 ∧ (20) = 0 ∧ (0) = 0)) ∨ ((15) = 2 ∧ PN0 (20) (0))) ∨ ((15) = 15 ∧ (20) = 14 ∧ (0) = 0)) ∨ (((15) = 15 ∧ 14 ≤ (20) ∧ (20) ≤ 15 ∧ (0) = 0) ∨ (3 ≤ (15) ∧ (15) < 15 ∧ PN0 (20) (0)))) ∨ ((15) = 15 ∧ (20) = 16 ∧ (0) = 0)) ∨ ((15) = 15 ∧ 16 ≤ (20) ∧ (20) ≤ 19 ∧ (0) = 0)); omega) (by show ¬ ((((((((15) = (15) + 1) ∨ ((15) = 15 ∧ 12 ≤ (20) ∧ (20) ≤ 13 ∧ (0) = 0)) ∨ ((15) = 0 ∧ PN0 (20) (0))) ∨ ((15) = 1 ∧ PN0 (20) (0))) ∨ ((15) = 2 ∧ PN0 (20) (0))) ∨ (((15) = 15 ∧ 14 ≤ (20) ∧ (20) ≤ 15 ∧ (0) = 0) ∨ (3 ≤ (15) ∧ (15) < 15 ∧ PN0 (20) (0)))) ∨ ((15) = 15 ∧ 16 ≤ (20) ∧ (20) ≤ 19 ∧ (0) = 0)); omega) (by intro j; show ¬ ((((((((((((((15) = (15) + 1) ∨ ((15) = 15 ∧ 12 ≤ (20) ∧ (20) ≤ 13 ∧ (0) = 0)) ∨ ((15) = 15 ∧ (20) = 11 ∧ (0) = 0 ∧ (j) = 0)) ∨ ((15) = 0 ∧ PN0 (20) (0))) ∨ ((15) = 15 ∧ (20) = 11 ∧ (0) = 0 ∧ (j) = 1)) ∨ ((15) = 1 ∧ PN0 (20) (0))) ∨ ((15) = 15 ∧ (20) = 11 ∧ (0) = 0 ∧ (j) = 2)) ∨ ((15) = 2 ∧ PN0 (20) (0))) ∨ ((15) = 15 ∧ (20) = 11 ∧ (0) = 0 ∧ (j) = 3)) ∨ (((15) = 15 ∧ 14 ≤ (20) ∧ (20) ≤ 15 ∧ (0) = 0) ∨ (3 ≤ (15) ∧ (15) < 15 ∧ PN0 (20) (0)))) ∨ ((15) = 15 ∧ (20) = 11 ∧ (0) = 0 ∧ (j) = 4)) ∨ ((15) = 15 ∧ 16 ≤ (20) ∧ (20) ≤ 19 ∧ (0) = 0)) ∨ ((15) = 15 ∧ (20) = 11 ∧ (0) = 0 ∧ (j) = 5)); omega)
  replace e_b0 := mv 15 11 0 _ (NP_v np (Or.inl (Or.inl (Or.inl (Or.inl (Or.inl (Or.inl (Or.inl (Or.inl (Or.inl (Or.inl (Or.inl (Or.inl ⟨rfl, rfl, rfl⟩))))))))))))) e_b0
  replace e_o12 := mv 15 12 0 _ (NP_v np (Or.inl (Or.inl (Or.inl (Or.inl (Or.inl (Or.inl (Or.inl (Or.inl (Or.inl (Or.inl (Or.inl (Or.inr ⟨rfl, rfl, rfl⟩))))))))))))) e_o12
  replace e_o0 := mv 0 0 0 _ (NP_v np (Or.inl (Or.inl (Or.inl (Or.inl (Or.inl (Or.inl (Or.inl (Or.inl (Or.inl (Or.inr ⟨rfl, rfl, rfl⟩))))))))))) e_o0
  replace e_o1 := mv 1 0 0 _ (NP_v np (Or.inl (Or.inl (Or.inl (Or.inl (Or.inl (Or.inl (Or.inl (Or.inr ⟨rfl, rfl, rfl⟩))))))))) e_o1
  replace e_o2 := mv 2 0 0 _ (NP_v np (Or.inl (Or.inl (Or.inl (Or.inl (Or.inl (Or.inr ⟨rfl, rfl, rfl⟩))))))) e_o2
  replace e_o14 := mv 15 14 0 _ (NP_v np (Or.inl (Or.inl (Or.inl (Or.inr ⟨rfl, rfl, rfl⟩))))) e_o14
  replace e_o16 := mv 15 16 0 _ (NP_v np (Or.inl (Or.inr ⟨rfl, rfl, rfl⟩))) e_o16
  have e_o20 := s_ad_s S18 15 20 0 o20
  clear np mv
  generalize s_ad S18 15 20 0 o20 = S19 at np' e_b0 e_o12 e_o0 e_o1 e_o2 e_o14 e_o16 e_o20 ⊢
  replace z_b0 := (ch_z_n (μ := μ17) (k := 15) (kd := 20) (i := 0) (show ¬ (15 = 15 ∧ 11 = 20 ∧ 0 = 0) by omega)).trans z_b0
  generalize hz_ : ch_z μ17 15 20 0 = μ19 at np' z_b0 ⊢
  have z_o20 : μ19 15 20 0 = fun _ => 0 := by rw [← hz_]; exact ch_z_0 _ _ _ _
  clear hz_
  have np := np'
  clear np'
  refine ca_dup h dX11_init_74 rfl ?_
  refine ca_tR e_o20 ?_
  refine ca_ctN h hG (List.mem_of_getElem? (i := 5) rfl) kw_362 kw_10 kw_363 ⟨by decide, by decide, by decide +kernel⟩ rfl (c_X9_init  (NP_v np (Or.inr ⟨rfl, rfl, rfl⟩)) (by exact z_o20) (fun a b c z z' => NP_nv np (hf a b c (Or.inl (by omega)) (by omega)) (fun y => by omega))) rfl rfl ⟨by omega, by omega⟩ rfl dX11_init_75 ?_
  intro S20 μ20 hp
  obtain ⟨np', mv⟩ := NP_callA np hp
  replace e_b0 := mv 15 11 0 _ (NP_v np (Or.inl (Or.inl (Or.inl (Or.inl (Or.inl (Or.inl (Or.inl (Or.inl (Or.inl (Or.inl (Or.inl (Or.inl (Or.inl ⟨rfl, rfl, rfl⟩)))))))))))))) e_b0
  replace e_o12 := mv 15 12 0 _ (NP_v np (Or.inl (Or.inl (Or.inl (Or.inl (Or.inl (Or.inl (Or.inl (Or.inl (Or.inl (Or.inl (Or.inl (Or.inl (Or.inr ⟨rfl, rfl, rfl⟩)))))))))))))) e_o12
  replace e_o0 := mv 0 0 0 _ (NP_v np (Or.inl (Or.inl (Or.inl (Or.inl (Or.inl (Or.inl (Or.inl (Or.inl (Or.inl (Or.inl (Or.inr ⟨rfl, rfl, rfl⟩)))))))))))) e_o0
  replace e_o1 := mv 1 0 0 _ (NP_v np (Or.inl (Or.inl (Or.inl (Or.inl (Or.inl (Or.inl (Or.inl (Or.inl (Or.inr ⟨rfl, rfl, rfl⟩)))))))))) e_o1
  replace e_o2 := mv 2 0 0 _ (NP_v np (Or.inl (Or.inl (Or.inl (Or.inl (Or.inl (Or.inl (Or.inr ⟨rfl, rfl, rfl⟩)))))))) e_o2
  replace e_o14 := mv 15 14 0 _ (NP_v np (Or.inl (Or.inl (Or.inl (Or.inl (Or.inr ⟨rfl, rfl, rfl⟩)))))) e_o14
  replace e_o16 := mv 15 16 0 _ (NP_v np (Or.inl (Or.inl (Or.inr ⟨rfl, rfl, rfl⟩)))) e_o16
  replace e_o20 := mv 15 20 0 _ (NP_v np (Or.inr ⟨rfl, rfl, rfl⟩)) e_o20
  replace z_b0 := (hp.2.2.1 15 11 0 (by (first | omega | (unfold PN0; omega) | simp))).2.trans z_b0
  clear np mv hp
  have np := np'
  clear np'
  refine ca_putR (ci := 11) (j := 6) (ty := tyX11 6) h rfl rfl li_X11 tyX11 tyX11_ok nmX11 rfl (NP_v np (Or.inl (Or.inl (Or.inl (Or.inl (Or.inl (Or.inl (Or.inl (Or.inl (Or.inl (Or.inl (Or.inl (Or.inl (Or.inl (Or.inl ⟨rfl, rfl, rfl⟩))))))))))))))) e_b0 (by decide) rfl kw_375 rfl hnm rfl (tyX11_ok 6 (by decide)) rfl rfl dX11_init_78 ?_
  replace np := NP_rfA np (j := 6) (Or.inl (Or.inl (Or.inl (Or.inl (Or.inl (Or.inl (Or.inl (Or.inl (Or.inl (Or.inl (Or.inl (Or.inl (Or.inl (Or.inl ⟨rfl, rfl, rfl⟩)))))))))))))) (r := (15, 20, 0)) rfl (NP_v np (Or.inl (Or.inr ⟨rfl, rfl, rfl⟩))) e_o20
  replace e_b0 : (s_rf S20 15 11 0 6 o20).1 15 11 0 = b0 := e_b0
  replace e_o12 : (s_rf S20 15 11 0 6 o20).1 15 12 0 = o12 := e_o12
  replace e_o0 : (s_rf S20 15 11 0 6 o20).1 0 0 0 = o0 := e_o0
  replace e_o1 : (s_rf S20 15 11 0 6 o20).1 1 0 0 = o1 := e_o1
  replace e_o2 : (s_rf S20 15 11 0 6 o20).1 2 0 0 = o2 := e_o2
  replace e_o14 : (s_rf S20 15 11 0 6 o20).1 15 14 0 = o14 := e_o14
  replace e_o16 : (s_rf S20 15 11 0 6 o20).1 15 16 0 = o16 := e_o16
  replace e_o20 : (s_rf S20 15 11 0 6 o20).1 15 20 0 = o20 := e_o20
  generalize s_rf S20 15 11 0 6 o20 = S21 at np e_b0 e_o12 e_o0 e_o1 e_o2 e_o14 e_o16 e_o20 ⊢
  refine ca_aload_nr h dX11_init_81 rfl ?_
  refine ca_iconst h dX11_init_82 ik_0 ?_
  refine ca_tR2 e_b0 ?_
  refine pi_X11_50 h (NP_v np (Or.inl (Or.inl (Or.inl (Or.inl (Or.inl (Or.inl (Or.inl (Or.inl (Or.inl (Or.inl (Or.inl (Or.inl (Or.inl (Or.inl ⟨rfl, rfl, rfl⟩))))))))))))))) (by first | exact Or.inl rfl | exact Or.inr rfl) dX11_init_83 ?_
  replace z_b0 : ch_st μ20 15 11 0 7 (0) 15 11 0 = _ := (ch_st_same _ _ _ _ _ _).trans (congrArg (fun z => up z 7 (0)) z_b0)
  replace np := NP_memO (μ' := ch_st μ20 15 11 0 7 (0)) np (Or.inl (Or.inl (Or.inl (Or.inl (Or.inl (Or.inl (Or.inl (Or.inl (Or.inl (Or.inl (Or.inl (Or.inl (Or.inl (Or.inl ⟨rfl, rfl, rfl⟩)))))))))))))) (by show ¬ (((((((((15) = (15) + 1) ∨ ((15) = 15 ∧ 12 ≤ (11) ∧ (11) ≤ 13 ∧ (0) = 0)) ∨ ((15) = 0 ∧ PN0 (11) (0))) ∨ ((15) = 1 ∧ PN0 (11) (0))) ∨ ((15) = 2 ∧ PN0 (11) (0))) ∨ (((15) = 15 ∧ 14 ≤ (11) ∧ (11) ≤ 15 ∧ (0) = 0) ∨ (3 ≤ (15) ∧ (15) < 15 ∧ PN0 (11) (0)))) ∨ ((15) = 15 ∧ 16 ≤ (11) ∧ (11) ≤ 19 ∧ (0) = 0)) ∨ ((15) = 15 ∧ 20 ≤ (11) ∧ (11) ≤ 21 ∧ (0) = 0)); omega) (fun a b c e => ch_st_ne e)
  generalize ch_st μ20 15 11 0 7 (0) = μ22 at np z_b0 ⊢
  refine ca_room (kc' := 1975) (ks' := 25694) (by omega) (by omega) ?_
  refine ca_vreturn h hR dX11_init_86 ⟨rfl, ?_⟩
  replace np := NP_memA (μ' := μ22) np (Or.inl (Or.inl (Or.inl (Or.inl (Or.inl (Or.inl (Or.inl (Or.inl (Or.inl (Or.inl (Or.inl (Or.inl (Or.inl (Or.inl ⟨rfl, rfl, rfl⟩)))))))))))))) (fun a b c _ => rfl) (z_b0.trans i_z11)
  exact NP_w np (by intro a b c; constructor; (· (intro z; rcases z with z | z; (· rcases (show b = 11 ∨ (12 ≤ b ∧ b ≤ 13) ∨ (14 ≤ b ∧ b ≤ 15) ∨ (16 ≤ b ∧ b ≤ 19) ∨ (20 ≤ b ∧ b ≤ 21) by omega) with y | y | y | y | y; (· exact (Or.inl (Or.inl (Or.inl (Or.inl (Or.inl (Or.inl (Or.inl (Or.inl (Or.inl (Or.inl (Or.inl (Or.inl (Or.inl (Or.inl ⟨z.1, y, z.2.2.2⟩))))))))))))))); (· exact (Or.inl (Or.inl (Or.inl (Or.inl (Or.inl (Or.inl (Or.inl (Or.inl (Or.inl (Or.inl (Or.inl (Or.inl (Or.inr ⟨z.1, y.1, y.2, z.2.2.2⟩)))))))))))))); (· exact (Or.inl (Or.inl (Or.inl (Or.inl (Or.inr (Or.inl ⟨z.1, y.1, y.2, z.2.2.2⟩))))))); (· exact (Or.inl (Or.inl (Or.inr ⟨z.1, y.1, y.2, z.2.2.2⟩)))); (· exact (Or.inr ⟨z.1, y.1, y.2, z.2.2.2⟩))); (· rcases (show a = 0 ∨ a = 1 ∨ a = 2 ∨ 3 ≤ a by omega) with y | y | y | y; (· exact (Or.inl (Or.inl (Or.inl (Or.inl (Or.inl (Or.inl (Or.inl (Or.inl (Or.inl (Or.inl (Or.inr ⟨y, z.2⟩)))))))))))); (· exact (Or.inl (Or.inl (Or.inl (Or.inl (Or.inl (Or.inl (Or.inl (Or.inl (Or.inr ⟨y, z.2⟩)))))))))); (· exact (Or.inl (Or.inl (Or.inl (Or.inl (Or.inl (Or.inl (Or.inr ⟨y, z.2⟩)))))))); (· exact (Or.inl (Or.inl (Or.inl (Or.inl (Or.inr (Or.inr ⟨y, z.1, z.2⟩)))))))))); (· (intro z; rcases z with ((((((((((((((z | z) | z) | z) | z) | z) | z) | z) | z) | z) | z) | z) | z) | z) | z); (· (exact Or.inl (by omega))); (· (exact Or.inl (by omega))); (· (exact Or.inl (by omega))); (· (obtain ⟨rfl, rfl, rfl⟩ := z; exact Or.inr ⟨by omega, pn00⟩)); (· (exact Or.inr ⟨by omega, z.2⟩)); (· (obtain ⟨rfl, rfl, rfl⟩ := z; exact Or.inr ⟨by omega, pn00⟩)); (· (exact Or.inr ⟨by omega, z.2⟩)); (· (obtain ⟨rfl, rfl, rfl⟩ := z; exact Or.inr ⟨by omega, pn00⟩)); (· (exact Or.inr ⟨by omega, z.2⟩)); (· (exact Or.inl (by omega))); (· (rcases z with z | z; (· exact Or.inl ⟨z.1, by omega, by omega, z.2.2.2⟩); (· exact Or.inr ⟨z.2.1, z.2.2⟩))); (· (exact Or.inl (by omega))); (· (exact Or.inl (by omega))); (· (exact Or.inl (by omega))); (· (exact Or.inl (by omega)))))) (by intro a b c z _; rcases z with ((((((((((((((z | z) | z) | z) | z) | z) | z) | z) | z) | z) | z) | z) | z) | z) | z); (· (exact (Or.inr z))); (· (exact (Or.inl (Or.inl (Or.inl (Or.inl (Or.inl (Or.inl (Or.inl (Or.inr ⟨z.1, by omega, by omega, z.2.2⟩)))))))))); (· (exact (Or.inl (Or.inl (Or.inl (Or.inl (Or.inl (Or.inl (Or.inl (Or.inr z)))))))))); (· (obtain ⟨rfl, rfl, rfl⟩ := z; exact (Or.inl (Or.inl (Or.inl (Or.inl (Or.inl (Or.inl (Or.inr ⟨rfl, pn00⟩))))))))); (· (exact (Or.inl (Or.inl (Or.inl (Or.inl (Or.inl (Or.inl (Or.inr z))))))))); (· (obtain ⟨rfl, rfl, rfl⟩ := z; exact (Or.inl (Or.inl (Or.inl (Or.inl (Or.inl (Or.inr ⟨rfl, pn00⟩)))))))); (· (exact (Or.inl (Or.inl (Or.inl (Or.inl (Or.inl (Or.inr z)))))))); (· (obtain ⟨rfl, rfl, rfl⟩ := z; exact (Or.inl (Or.inl (Or.inl (Or.inl (Or.inr ⟨rfl, pn00⟩))))))); (· (exact (Or.inl (Or.inl (Or.inl (Or.inl (Or.inr z))))))); (· (exact (Or.inl (Or.inl (Or.inl (Or.inr (Or.inl ⟨z.1, by omega, by omega, z.2.2⟩))))))); (· (exact (Or.inl (Or.inl (Or.inl (Or.inr z)))))); (· (exact (Or.inl (Or.inl (Or.inr ⟨z.1, by omega, by omega, z.2.2⟩))))); (· (exact (Or.inl (Or.inl (Or.inr z))))); (· (exact (Or.inl (Or.inr ⟨z.1, by omega, by omega, z.2.2⟩)))); (· (exact (Or.inl (Or.inr z))))) (by intro a b c j r z _ e; rcases z with ((((((((((((((z | z) | z) | z) | z) | z) | z) | z) | z) | z) | z) | z) | z) | z) | z); (· (have ej := ch_rt_j e; rcases (show j = 0 ∨ j = 1 ∨ j = 2 ∨ j = 3 ∨ j = 4 ∨ j = 5 ∨ j = 6 by omega) with y | y | y | y | y | y | y; (· exact (Or.inl (Or.inl (Or.inl (Or.inl (Or.inl (Or.inl (Or.inl (Or.inl (Or.inl (Or.inl (Or.inl (Or.inl (Or.inr ⟨z.1, z.2.1, z.2.2, y⟩)))))))))))))); (· exact (Or.inl (Or.inl (Or.inl (Or.inl (Or.inl (Or.inl (Or.inl (Or.inl (Or.inl (Or.inl (Or.inr ⟨z.1, z.2.1, z.2.2, y⟩)))))))))))); (· exact (Or.inl (Or.inl (Or.inl (Or.inl (Or.inl (Or.inl (Or.inl (Or.inl (Or.inr ⟨z.1, z.2.1, z.2.2, y⟩)))))))))); (· exact (Or.inl (Or.inl (Or.inl (Or.inl (Or.inl (Or.inl (Or.inr ⟨z.1, z.2.1, z.2.2, y⟩)))))))); (· exact (Or.inl (Or.inl (Or.inl (Or.inl (Or.inr ⟨z.1, z.2.1, z.2.2, y⟩)))))); (· exact (Or.inl (Or.inl (Or.inr ⟨z.1, z.2.1, z.2.2, y⟩)))); (· exact (Or.inr ⟨z.1, z.2.1, z.2.2, y⟩)))); (· (exact (Or.inl (Or.inl (Or.inl (Or.inl (Or.inl (Or.inl (Or.inl (Or.inl (Or.inl (Or.inl (Or.inl (Or.inl (Or.inl (Or.inr ⟨z.1, by omega, by omega, z.2.2⟩)))))))))))))))); (· (exact (Or.inl (Or.inl (Or.inl (Or.inl (Or.inl (Or.inl (Or.inl (Or.inl (Or.inl (Or.inl (Or.inl (Or.inl (Or.inl (Or.inr z)))))))))))))))); (· (obtain ⟨rfl, rfl, rfl⟩ := z; exact (Or.inl (Or.inl (Or.inl (Or.inl (Or.inl (Or.inl (Or.inl (Or.inl (Or.inl (Or.inl (Or.inl (Or.inr ⟨rfl, pn00⟩)))))))))))))); (· (exact (Or.inl (Or.inl (Or.inl (Or.inl (Or.inl (Or.inl (Or.inl (Or.inl (Or.inl (Or.inl (Or.inl (Or.inr z)))))))))))))); (· (obtain ⟨rfl, rfl, rfl⟩ := z; exact (Or.inl (Or.inl (Or.inl (Or.inl (Or.inl (Or.inl (Or.inl (Or.inl (Or.inl (Or.inr ⟨rfl, pn00⟩)))))))))))); (· (exact (Or.inl (Or.inl (Or.inl (Or.inl (Or.inl (Or.inl (Or.inl (Or.inl (Or.inl (Or.inr z)))))))))))); (· (obtain ⟨rfl, rfl, rfl⟩ := z; exact (Or.inl (Or.inl (Or.inl (Or.inl (Or.inl (Or.inl (Or.inl (Or.inr ⟨rfl, pn00⟩)))))))))); (· (exact (Or.inl (Or.inl (Or.inl (Or.inl (Or.inl (Or.inl (Or.inl (Or.inr z)))))))))); (· (exact (Or.inl (Or.inl (Or.inl (Or.inl (Or.inl (Or.inr (Or.inl ⟨z.1, by omega, by omega, z.2.2⟩))))))))); (· (exact (Or.inl (Or.inl (Or.inl (Or.inl (Or.inl (Or.inr z)))))))); (· (exact (Or.inl (Or.inl (Or.inl (Or.inr ⟨z.1, by omega, by omega, z.2.2⟩)))))); (· (exact (Or.inl (Or.inl (Or.inl (Or.inr z)))))); (· (exact (Or.inl (Or.inr ⟨z.1, by omega, by omega, z.2.2⟩)))); (· (exact (Or.inl (Or.inr z)))))
