set_option maxHeartbeats 100000 in
theorem c_X3_setDefaults0 {l : Launch} {E : ch_E} {S : ch_S} {μ : ch_M} {k : Nat} (hv : S.2.1 k 0 0) : ch_C E l yX3_setDefaults cX3_setDefaults 1 none 1 0 0 S μ [.ref (S.1 k 0 0)] (ch_F none S (up μ k (k_dfl (μ k)))) := by
  refine ch_enter rfl rfl ?_
  intro X hl0 h hG hR hnm
  have h : ch_H X E RX3 cX3_setDefaults 1 := h
  show ch_W X E 1 S μ 0 0 0 [(0, .ref (S.1 k 0 0))] []
  refine ca_aload_nr h dX3_setDefaults_0 rfl ?_
  refine ca_iconst h dX3_setDefaults_1 ik_4 ?_
  refine pi_X3_51 h hv dX3_setDefaults_2 ?_
  refine ca_aload_nr h dX3_setDefaults_5 rfl ?_
  refine ca_iconst h dX3_setDefaults_6 ik_2 ?_
  refine pi_X3_55 h hv dX3_setDefaults_7 ?_
  refine ca_aload_nr h dX3_setDefaults_10 rfl ?_
  refine ca_iconst h dX3_setDefaults_11 ik_5 ?_
  refine pi_X3_58 h hv dX3_setDefaults_12 ?_
  refine ca_aload_nr h dX3_setDefaults_15 rfl ?_
  refine ca_iconst h dX3_setDefaults_16 ik_4 ?_
  refine pi_X3_61 h hv dX3_setDefaults_17 ?_
  refine ca_aload_nr h dX3_setDefaults_20 rfl ?_
  refine ca_iconst h dX3_setDefaults_21 ik_5 ?_
  refine pi_X3_64 h hv dX3_setDefaults_22 ?_
  refine ca_aload_nr h dX3_setDefaults_25 rfl ?_
  refine ca_iconst h dX3_setDefaults_26 ik_3 ?_
  refine pi_X3_67 h hv dX3_setDefaults_27 ?_
  refine ca_vreturn h hR dX3_setDefaults_30 ?_
  exact ⟨rfl, rfl, by simp only [ch_st_nw, ch_sa_na, up_s, up_up, k_dfl]⟩
set_option maxHeartbeats 1000000 in
theorem c_X3_init {l : Launch} {E : ch_E} {S : ch_S} {μ : ch_M} {k : Nat} (hv : S.2.1 k 0 0) (hz : μ k 0 0 = fun _ => 0) (hf : ∀ a b c, (a = k ∧ PN0 b c) → ¬ (a = k ∧ b = 0 ∧ c = 0) → ¬ S.2.1 a b c) : ch_C E l yX3_init cX3_init 2 (Option.none : Option Jvm.ClassFile.FieldType) 4 130 1642 S μ [.ref (S.1 k 0 0)] (c_Post S μ (fun a b c => (a = k ∧ PN0 b c))) := by
  refine ch_enter rfl rfl ?_
  intro X hl0 h hG hR hnm
  have h : ch_H X E RX3 cX3_init 2 := h
  have hb : ∀ {S' : ch_S}, S'.2.1 k 0 0 → ch_bs X E S' := fun z => Or.inr ⟨_, _, _, z⟩
  show ch_W X E 2 S μ 0 0 0 [(0, .ref (S.1 k 0 0))] []
  have np := NP_00 (μ := μ) hv
  obtain ⟨b0, e_b0⟩ : ∃ z, S.1 k 0 0 = z := ⟨_, rfl⟩
  rw [e_b0]
  have z_b0 := hz
  refine ca_aload_nr h dX3_init_0 rfl ?_
  refine ca_objI h hG kw_73 kw_32 kw_33 rfl rfl dX3_init_1 ?_
  refine ca_aload_nr h dX3_init_4 rfl ?_
  refine ca_bipush h dX3_init_5 bk_8 ?_
  refine ca_newQ h k 8 0 hG (hb (NP_v np (by omega))) rfl (t := 1) (by decide) rfl kw_74 (List.mem_of_getElem? (i := 0) rfl) (by decide) (n := 8) (by decide) rfl ⟨by omega, by omega⟩ dX3_init_7 ?_
  intro q8
  obtain ⟨np', mv⟩ := NP_newA (q := q8) np (hf k 8 0 (by (first | omega | (unfold PN0; omega) | simp)) (by omega)) (by show ¬ ((k) = k ∧ (8) = 0 ∧ (0) = 0); omega) rfl (by intro j; show ¬ ((k) = (k) + 1); omega)
  replace e_b0 := mv k 0 0 _ (NP_v np ⟨rfl, rfl, rfl⟩) e_b0
  have e_q8 := s_ad_s S k 8 0 q8
  clear np mv
  generalize s_ad S k 8 0 q8 = S1 at np' e_b0 e_q8 ⊢
  replace z_b0 := (ch_z_n (μ := μ) (k := k) (kd := 8) (i := 0) (show ¬ (k = k ∧ 0 = 8 ∧ 0 = 0) by omega)).trans z_b0
  generalize hz_ : ch_z μ k 8 0 = μ1 at np' z_b0 ⊢
  have z_q8 : μ1 k 8 0 = fun _ => 0 := by rw [← hz_]; exact ch_z_0 _ _ _ _
  clear hz_
  have np := np'
  clear np'
  refine ca_putR (ci := 3) (j := 10) (ty := tyX3 10) h rfl rfl li_X3 tyX3 tyX3_ok nmX3 rfl (NP_v np (Or.inl ⟨rfl, rfl, rfl⟩)) e_b0 (by decide) rfl kw_266 rfl hnm rfl (tyX3_ok 10 (by decide)) rfl rfl dX3_init_10 ?_
  replace np := NP_rfA np (j := 10) (Or.inl ⟨rfl, rfl, rfl⟩) (r := (k, 8, 0)) rfl (NP_v np (Or.inr ⟨rfl, rfl, rfl⟩)) e_q8
  replace e_b0 : (s_rf S1 k 0 0 10 q8).1 k 0 0 = b0 := e_b0
  replace e_q8 : (s_rf S1 k 0 0 10 q8).1 k 8 0 = q8 := e_q8
  generalize s_rf S1 k 0 0 10 q8 = S2 at np e_b0 e_q8 ⊢
  refine ca_aload_nr h dX3_init_13 rfl ?_
  refine ca_bipush h dX3_init_14 bk_64 ?_
  refine ca_newQ h k 9 0 hG (hb (NP_v np (by omega))) rfl (t := 2) (by decide) rfl kw_76 (List.mem_of_getElem? (i := 1) rfl) (by decide) (n := 64) (by decide) rfl ⟨by omega, by omega⟩ dX3_init_16 ?_
  intro q9
  obtain ⟨np', mv⟩ := NP_newA (q := q9) np (hf k 9 0 (by (first | omega | (unfold PN0; omega) | simp)) (by omega)) (by show ¬ (((k) = k ∧ (9) = 0 ∧ (0) = 0) ∨ ((k) = k ∧ (9) = 8 ∧ (0) = 0)); omega) rfl (by intro j; show ¬ (((k) = (k) + 1) ∨ ((k) = k ∧ (9) = 0 ∧ (0) = 0 ∧ (j) = 10)); omega)
  replace e_b0 := mv k 0 0 _ (NP_v np (Or.inl ⟨rfl, rfl, rfl⟩)) e_b0
  replace e_q8 := mv k 8 0 _ (NP_v np (Or.inr ⟨rfl, rfl, rfl⟩)) e_q8
  have e_q9 := s_ad_s S2 k 9 0 q9
  clear np mv
  generalize s_ad S2 k 9 0 q9 = S3 at np' e_b0 e_q8 e_q9 ⊢
  replace z_b0 := (ch_z_n (μ := μ1) (k := k) (kd := 9) (i := 0) (show ¬ (k = k ∧ 0 = 9 ∧ 0 = 0) by omega)).trans z_b0
  generalize hz_ : ch_z μ1 k 9 0 = μ3 at np' z_b0 ⊢
  have z_q9 : μ3 k 9 0 = fun _ => 0 := by rw [← hz_]; exact ch_z_0 _ _ _ _
  clear hz_
  have np := np'
  clear np'
  refine ca_putR (ci := 3) (j := 11) (ty := tyX3 11) h rfl rfl li_X3 tyX3 tyX3_ok nmX3 rfl (NP_v np (Or.inl (Or.inl ⟨rfl, rfl, rfl⟩))) e_b0 (by decide) rfl kw_267 rfl hnm rfl (tyX3_ok 11 (by decide)) rfl rfl dX3_init_19 ?_
  replace np := NP_rfA np (j := 11) (Or.inl (Or.inl ⟨rfl, rfl, rfl⟩)) (r := (k, 9, 0)) rfl (NP_v np (Or.inr ⟨rfl, rfl, rfl⟩)) e_q9
  replace e_b0 : (s_rf S3 k 0 0 11 q9).1 k 0 0 = b0 := e_b0
  replace e_q8 : (s_rf S3 k 0 0 11 q9).1 k 8 0 = q8 := e_q8
  replace e_q9 : (s_rf S3 k 0 0 11 q9).1 k 9 0 = q9 := e_q9
  generalize s_rf S3 k 0 0 11 q9 = S4 at np e_b0 e_q8 e_q9 ⊢
  refine ca_aload_nr h dX3_init_22 rfl ?_
  refine ca_bipush h dX3_init_23 bk_12 ?_
  refine ca_newQ h k 10 0 hG (hb (NP_v np (by omega))) rfl (t := 3) (by decide) rfl kw_78 (List.mem_of_getElem? (i := 2) rfl) (by decide) (n := 12) (by decide) rfl ⟨by omega, by omega⟩ dX3_init_25 ?_
  intro q10
  obtain ⟨np', mv⟩ := NP_newA (q := q10) np (hf k 10 0 (by (first | omega | (unfold PN0; omega) | simp)) (by omega)) (by show ¬ ((((k) = k ∧ (10) = 0 ∧ (0) = 0) ∨ ((k) = k ∧ (10) = 8 ∧ (0) = 0)) ∨ ((k) = k ∧ (10) = 9 ∧ (0) = 0)); omega) rfl (by intro j; show ¬ ((((k) = (k) + 1) ∨ ((k) = k ∧ (10) = 0 ∧ (0) = 0 ∧ (j) = 10)) ∨ ((k) = k ∧ (10) = 0 ∧ (0) = 0 ∧ (j) = 11)); omega)
  replace e_b0 := mv k 0 0 _ (NP_v np (Or.inl (Or.inl ⟨rfl, rfl, rfl⟩))) e_b0
  replace e_q8 := mv k 8 0 _ (NP_v np (Or.inl (Or.inr ⟨rfl, rfl, rfl⟩))) e_q8
  replace e_q9 := mv k 9 0 _ (NP_v np (Or.inr ⟨rfl, rfl, rfl⟩)) e_q9
  have e_q10 := s_ad_s S4 k 10 0 q10
  clear np mv
  generalize s_ad S4 k 10 0 q10 = S5 at np' e_b0 e_q8 e_q9 e_q10 ⊢
  replace z_b0 := (ch_z_n (μ := μ3) (k := k) (kd := 10) (i := 0) (show ¬ (k = k ∧ 0 = 10 ∧ 0 = 0) by omega)).trans z_b0
  generalize hz_ : ch_z μ3 k 10 0 = μ5 at np' z_b0 ⊢
  have z_q10 : μ5 k 10 0 = fun _ => 0 := by rw [← hz_]; exact ch_z_0 _ _ _ _
  clear hz_
  have np := np'
  clear np'
  refine ca_putR (ci := 3) (j := 12) (ty := tyX3 12) h rfl rfl li_X3 tyX3 tyX3_ok nmX3 rfl (NP_v np (Or.inl (Or.inl (Or.inl ⟨rfl, rfl, rfl⟩)))) e_b0 (by decide) rfl kw_268 rfl hnm rfl (tyX3_ok 12 (by decide)) rfl rfl dX3_init_28 ?_
  replace np := NP_rfA np (j := 12) (Or.inl (Or.inl (Or.inl ⟨rfl, rfl, rfl⟩))) (r := (k, 10, 0)) rfl (NP_v np (Or.inr ⟨rfl, rfl, rfl⟩)) e_q10
  replace e_b0 : (s_rf S5 k 0 0 12 q10).1 k 0 0 = b0 := e_b0
  replace e_q8 : (s_rf S5 k 0 0 12 q10).1 k 8 0 = q8 := e_q8
  replace e_q9 : (s_rf S5 k 0 0 12 q10).1 k 9 0 = q9 := e_q9
  replace e_q10 : (s_rf S5 k 0 0 12 q10).1 k 10 0 = q10 := e_q10
  generalize s_rf S5 k 0 0 12 q10 = S6 at np e_b0 e_q8 e_q9 e_q10 ⊢
  refine ca_aload_nr h dX3_init_31 rfl ?_
  refine ca_bipush h dX3_init_32 bk_8 ?_
  refine ca_newI h k 7 0 hG (hb (NP_v np (by omega))) rfl kw_67 (by decide) (n := 8) (by decide) rfl ⟨by omega, by omega⟩ dX3_init_34 ?_
  intro q7
  obtain ⟨np', mv⟩ := NP_newA (q := q7) np (hf k 7 0 (by (first | omega | (unfold PN0; omega) | simp)) (by omega)) (by show ¬ (((((k) = k ∧ (7) = 0 ∧ (0) = 0) ∨ ((k) = k ∧ (7) = 8 ∧ (0) = 0)) ∨ ((k) = k ∧ (7) = 9 ∧ (0) = 0)) ∨ ((k) = k ∧ (7) = 10 ∧ (0) = 0)); omega) rfl (by intro j; show ¬ (((((k) = (k) + 1) ∨ ((k) = k ∧ (7) = 0 ∧ (0) = 0 ∧ (j) = 10)) ∨ ((k) = k ∧ (7) = 0 ∧ (0) = 0 ∧ (j) = 11)) ∨ ((k) = k ∧ (7) = 0 ∧ (0) = 0 ∧ (j) = 12)); omega)
  replace e_b0 := mv k 0 0 _ (NP_v np (Or.inl (Or.inl (Or.inl ⟨rfl, rfl, rfl⟩)))) e_b0
  replace e_q8 := mv k 8 0 _ (NP_v np (Or.inl (Or.inl (Or.inr ⟨rfl, rfl, rfl⟩)))) e_q8
  replace e_q9 := mv k 9 0 _ (NP_v np (Or.inl (Or.inr ⟨rfl, rfl, rfl⟩))) e_q9
  replace e_q10 := mv k 10 0 _ (NP_v np (Or.inr ⟨rfl, rfl, rfl⟩)) e_q10
  have e_q7 := s_ad_s S6 k 7 0 q7
  clear np mv
  generalize s_ad S6 k 7 0 q7 = S7 at np' e_b0 e_q8 e_q9 e_q10 e_q7 ⊢
  replace z_b0 := (ch_z_n (μ := μ5) (k := k) (kd := 7) (i := 0) (show ¬ (k = k ∧ 0 = 7 ∧ 0 = 0) by omega)).trans z_b0
  generalize hz_ : ch_z μ5 k 7 0 = μ7 at np' z_b0 ⊢
  have z_q7 : μ7 k 7 0 = fun _ => 0 := by rw [← hz_]; exact ch_z_0 _ _ _ _
  clear hz_
  have np := np'
  clear np'
  refine ca_putR (ci := 3) (j := 13) (ty := tyX3 13) h rfl rfl li_X3 tyX3 tyX3_ok nmX3 rfl (NP_v np (Or.inl (Or.inl (Or.inl (Or.inl ⟨rfl, rfl, rfl⟩))))) e_b0 (by decide) rfl kw_269 rfl hnm rfl (tyX3_ok 13 (by decide)) rfl rfl dX3_init_36 ?_
  replace np := NP_rfA np (j := 13) (Or.inl (Or.inl (Or.inl (Or.inl ⟨rfl, rfl, rfl⟩)))) (r := (k, 7, 0)) rfl (NP_v np (Or.inr ⟨rfl, rfl, rfl⟩)) e_q7
  replace e_b0 : (s_rf S7 k 0 0 13 q7).1 k 0 0 = b0 := e_b0
  replace e_q8 : (s_rf S7 k 0 0 13 q7).1 k 8 0 = q8 := e_q8
  replace e_q9 : (s_rf S7 k 0 0 13 q7).1 k 9 0 = q9 := e_q9
  replace e_q10 : (s_rf S7 k 0 0 13 q7).1 k 10 0 = q10 := e_q10
  replace e_q7 : (s_rf S7 k 0 0 13 q7).1 k 7 0 = q7 := e_q7
  generalize s_rf S7 k 0 0 13 q7 = S8 at np e_b0 e_q8 e_q9 e_q10 e_q7 ⊢
  refine ca_aload_nr h dX3_init_39 rfl ?_
  refine ca_newO h (ci := 0) k 1 8 hG (hb (NP_v np (by omega))) rfl rfl li_X0 tyX0 tyX0_ok dvX0 rfl kw_74 kw_80 kw_4 ⟨by omega, by omega⟩ dX3_init_40 ?_
  intro c8
  obtain ⟨np', mv⟩ := NP_newO (q := c8) np (hf k 1 8 (by (first | omega | (unfold PN0; omega) | simp)) (by omega)) (by show ¬ ((((((k) = k ∧ (1) = 0 ∧ (8) = 0) ∨ ((k) = k ∧ (1) = 8 ∧ (8) = 0)) ∨ ((k) = k ∧ (1) = 9 ∧ (8) = 0)) ∨ ((k) = k ∧ (1) = 10 ∧ (8) = 0)) ∨ ((k) = k ∧ (1) = 7 ∧ (8) = 0)); omega) (by show ¬ ((((((k) = (k) + 1) ∨ ((k) = k ∧ (1) = 8 ∧ (8) = 0)) ∨ ((k) = k ∧ (1) = 9 ∧ (8) = 0)) ∨ ((k) = k ∧ (1) = 10 ∧ (8) = 0)) ∨ ((k) = k ∧ (1) = 7 ∧ (8) = 0)); omega) (by intro j; show ¬ ((((((k) = (k) + 1) ∨ ((k) = k ∧ (1) = 0 ∧ (8) = 0 ∧ (j) = 10)) ∨ ((k) = k ∧ (1) = 0 ∧ (8) = 0 ∧ (j) = 11)) ∨ ((k) = k ∧ (1) = 0 ∧ (8) = 0 ∧ (j) = 12)) ∨ ((k) = k ∧ (1) = 0 ∧ (8) = 0 ∧ (j) = 13)); omega)
  replace e_b0 := mv k 0 0 _ (NP_v np (Or.inl (Or.inl (Or.inl (Or.inl ⟨rfl, rfl, rfl⟩))))) e_b0
  replace e_q8 := mv k 8 0 _ (NP_v np (Or.inl (Or.inl (Or.inl (Or.inr ⟨rfl, rfl, rfl⟩))))) e_q8
  replace e_q9 := mv k 9 0 _ (NP_v np (Or.inl (Or.inl (Or.inr ⟨rfl, rfl, rfl⟩)))) e_q9
  replace e_q10 := mv k 10 0 _ (NP_v np (Or.inl (Or.inr ⟨rfl, rfl, rfl⟩))) e_q10
  replace e_q7 := mv k 7 0 _ (NP_v np (Or.inr ⟨rfl, rfl, rfl⟩)) e_q7
  have e_c8 := s_ad_s S8 k 1 8 c8
  clear np mv
  generalize s_ad S8 k 1 8 c8 = S9 at np' e_b0 e_q8 e_q9 e_q10 e_q7 e_c8 ⊢
  replace z_b0 := (ch_z_n (μ := μ7) (k := k) (kd := 1) (i := 8) (show ¬ (k = k ∧ 0 = 1 ∧ 0 = 8) by omega)).trans z_b0
  generalize hz_ : ch_z μ7 k 1 8 = μ9 at np' z_b0 ⊢
  have z_c8 : μ9 k 1 8 = fun _ => 0 := by rw [← hz_]; exact ch_z_0 _ _ _ _
  clear hz_
  have np := np'
  clear np'
  refine ca_dup h dX3_init_43 rfl ?_
  refine ca_tR e_c8 ?_
  refine ca_ctN h hG (List.mem_of_getElem? (i := 1) rfl) kw_82 kw_4 kw_83 ⟨by decide, by decide, by decide +kernel⟩ rfl (c_X0_init  (NP_v np (Or.inr ⟨rfl, rfl, rfl⟩)) (z_c8)) rfl rfl ⟨by omega, by omega⟩ rfl dX3_init_44 ?_
  intro S10 μ10 hp
  obtain ⟨np', mv⟩ := NP_callA np hp
  replace e_b0 := mv k 0 0 _ (NP_v np (Or.inl (Or.inl (Or.inl (Or.inl (Or.inl ⟨rfl, rfl, rfl⟩)))))) e_b0
  replace e_q8 := mv k 8 0 _ (NP_v np (Or.inl (Or.inl (Or.inl (Or.inl (Or.inr ⟨rfl, rfl, rfl⟩)))))) e_q8
  replace e_q9 := mv k 9 0 _ (NP_v np (Or.inl (Or.inl (Or.inl (Or.inr ⟨rfl, rfl, rfl⟩))))) e_q9
  replace e_q10 := mv k 10 0 _ (NP_v np (Or.inl (Or.inl (Or.inr ⟨rfl, rfl, rfl⟩)))) e_q10
  replace e_q7 := mv k 7 0 _ (NP_v np (Or.inl (Or.inr ⟨rfl, rfl, rfl⟩))) e_q7
  replace e_c8 := mv k 1 8 _ (NP_v np (Or.inr ⟨rfl, rfl, rfl⟩)) e_c8
  replace z_b0 := (hp.2.2.1 k 0 0 (by (first | omega | (unfold PN0; omega) | simp))).2.trans z_b0
  clear np mv hp
  have np := np'
  clear np'
  refine ca_putR (ci := 3) (j := 14) (ty := tyX3 14) h rfl rfl li_X3 tyX3 tyX3_ok nmX3 rfl (NP_v np (Or.inl (Or.inl (Or.inl (Or.inl (Or.inl (Or.inl ⟨rfl, rfl, rfl⟩))))))) e_b0 (by decide) rfl kw_270 rfl hnm rfl (tyX3_ok 14 (by decide)) rfl rfl dX3_init_47 ?_
  replace np := NP_rfA np (j := 14) (Or.inl (Or.inl (Or.inl (Or.inl (Or.inl (Or.inl ⟨rfl, rfl, rfl⟩)))))) (r := (k, 1, 8)) rfl (NP_v np (Or.inl (Or.inr ⟨rfl, rfl, rfl⟩))) e_c8
  replace e_b0 : (s_rf S10 k 0 0 14 c8).1 k 0 0 = b0 := e_b0
  replace e_q8 : (s_rf S10 k 0 0 14 c8).1 k 8 0 = q8 := e_q8
  replace e_q9 : (s_rf S10 k 0 0 14 c8).1 k 9 0 = q9 := e_q9
  replace e_q10 : (s_rf S10 k 0 0 14 c8).1 k 10 0 = q10 := e_q10
  replace e_q7 : (s_rf S10 k 0 0 14 c8).1 k 7 0 = q7 := e_q7
  replace e_c8 : (s_rf S10 k 0 0 14 c8).1 k 1 8 = c8 := e_c8
  generalize s_rf S10 k 0 0 14 c8 = S11 at np e_b0 e_q8 e_q9 e_q10 e_q7 e_c8 ⊢
  refine ca_aload_nr h dX3_init_50 rfl ?_
  refine ca_newO h (ci := 7) k 2 64 hG (hb (NP_v np (by omega))) rfl rfl li_X7 tyX7 tyX7_ok dvX7 rfl kw_76 kw_129 kw_5 ⟨by omega, by omega⟩ dX3_init_51 ?_
  intro r64
  obtain ⟨np', mv⟩ := NP_newO (q := r64) np (hf k 2 64 (by (first | omega | (unfold PN0; omega) | simp)) (by omega)) (by show ¬ ((((((((k) = k ∧ (2) = 0 ∧ (64) = 0) ∨ ((k) = k ∧ (2) = 8 ∧ (64) = 0)) ∨ ((k) = k ∧ (2) = 9 ∧ (64) = 0)) ∨ ((k) = k ∧ (2) = 10 ∧ (64) = 0)) ∨ ((k) = k ∧ (2) = 7 ∧ (64) = 0)) ∨ ((k) = k ∧ (2) = 1 ∧ (64) = 8)) ∨ ((k) = k ∧ (2) = 1 ∧ (64) = 8)); omega) (by show ¬ (((((((k) = (k) + 1) ∨ ((k) = k ∧ (2) = 8 ∧ (64) = 0)) ∨ ((k) = k ∧ (2) = 9 ∧ (64) = 0)) ∨ ((k) = k ∧ (2) = 10 ∧ (64) = 0)) ∨ ((k) = k ∧ (2) = 7 ∧ (64) = 0)) ∨ ((k) = k ∧ (2) = 1 ∧ (64) = 8)); omega) (by intro j; show ¬ ((((((((k) = (k) + 1) ∨ ((k) = k ∧ (2) = 0 ∧ (64) = 0 ∧ (j) = 10)) ∨ ((k) = k ∧ (2) = 0 ∧ (64) = 0 ∧ (j) = 11)) ∨ ((k) = k ∧ (2) = 0 ∧ (64) = 0 ∧ (j) = 12)) ∨ ((k) = k ∧ (2) = 0 ∧ (64) = 0 ∧ (j) = 13)) ∨ ((k) = k ∧ (2) = 1 ∧ (64) = 8)) ∨ ((k) = k ∧ (2) = 0 ∧ (64) = 0 ∧ (j) = 14)); omega)
  replace e_b0 := mv k 0 0 _ (NP_v np (Or.inl (Or.inl (Or.inl (Or.inl (Or.inl (Or.inl ⟨rfl, rfl, rfl⟩))))))) e_b0
  replace e_q8 := mv k 8 0 _ (NP_v np (Or.inl (Or.inl (Or.inl (Or.inl (Or.inl (Or.inr ⟨rfl, rfl, rfl⟩))))))) e_q8
  replace e_q9 := mv k 9 0 _ (NP_v np (Or.inl (Or.inl (Or.inl (Or.inl (Or.inr ⟨rfl, rfl, rfl⟩)))))) e_q9
  replace e_q10 := mv k 10 0 _ (NP_v np (Or.inl (Or.inl (Or.inl (Or.inr ⟨rfl, rfl, rfl⟩))))) e_q10
  replace e_q7 := mv k 7 0 _ (NP_v np (Or.inl (Or.inl (Or.inr ⟨rfl, rfl, rfl⟩)))) e_q7
  replace e_c8 := mv k 1 8 _ (NP_v np (Or.inl (Or.inr ⟨rfl, rfl, rfl⟩))) e_c8
  have e_r64 := s_ad_s S11 k 2 64 r64
  clear np mv
  generalize s_ad S11 k 2 64 r64 = S12 at np' e_b0 e_q8 e_q9 e_q10 e_q7 e_c8 e_r64 ⊢
  replace z_b0 := (ch_z_n (μ := μ10) (k := k) (kd := 2) (i := 64) (show ¬ (k = k ∧ 0 = 2 ∧ 0 = 64) by omega)).trans z_b0
  generalize hz_ : ch_z μ10 k 2 64 = μ12 at np' z_b0 ⊢
  have z_r64 : μ12 k 2 64 = fun _ => 0 := by rw [← hz_]; exact ch_z_0 _ _ _ _
  clear hz_
  have np := np'
  clear np'
  refine ca_dup h dX3_init_54 rfl ?_
  refine ca_tR e_r64 ?_
  refine ca_ctN h hG (List.mem_of_getElem? (i := 2) rfl) kw_131 kw_5 kw_132 ⟨by decide, by decide, by decide +kernel⟩ rfl (c_X7_init  (NP_v np (Or.inr ⟨rfl, rfl, rfl⟩)) (z_r64)) rfl rfl ⟨by omega, by omega⟩ rfl dX3_init_55 ?_
  intro S13 μ13 hp
  obtain ⟨np', mv⟩ := NP_callA np hp
  replace e_b0 := mv k 0 0 _ (NP_v np (Or.inl (Or.inl (Or.inl (Or.inl (Or.inl (Or.inl (Or.inl ⟨rfl, rfl, rfl⟩)))))))) e_b0
  replace e_q8 := mv k 8 0 _ (NP_v np (Or.inl (Or.inl (Or.inl (Or.inl (Or.inl (Or.inl (Or.inr ⟨rfl, rfl, rfl⟩)))))))) e_q8
  replace e_q9 := mv k 9 0 _ (NP_v np (Or.inl (Or.inl (Or.inl (Or.inl (Or.inl (Or.inr ⟨rfl, rfl, rfl⟩))))))) e_q9
  replace e_q10 := mv k 10 0 _ (NP_v np (Or.inl (Or.inl (Or.inl (Or.inl (Or.inr ⟨rfl, rfl, rfl⟩)))))) e_q10
  replace e_q7 := mv k 7 0 _ (NP_v np (Or.inl (Or.inl (Or.inl (Or.inr ⟨rfl, rfl, rfl⟩))))) e_q7
  replace e_c8 := mv k 1 8 _ (NP_v np (Or.inl (Or.inl (Or.inr ⟨rfl, rfl, rfl⟩)))) e_c8
  replace e_r64 := mv k 2 64 _ (NP_v np (Or.inr ⟨rfl, rfl, rfl⟩)) e_r64
  replace z_b0 := (hp.2.2.1 k 0 0 (by (first | omega | (unfold PN0; omega) | simp))).2.trans z_b0
  clear np mv hp
  have np := np'
  clear np'
  refine ca_putR (ci := 3) (j := 15) (ty := tyX3 15) h rfl rfl li_X3 tyX3 tyX3_ok nmX3 rfl (NP_v np (Or.inl (Or.inl (Or.inl (Or.inl (Or.inl (Or.inl (Or.inl (Or.inl ⟨rfl, rfl, rfl⟩))))))))) e_b0 (by decide) rfl kw_271 rfl hnm rfl (tyX3_ok 15 (by decide)) rfl rfl dX3_init_58 ?_
  replace np := NP_rfA np (j := 15) (Or.inl (Or.inl (Or.inl (Or.inl (Or.inl (Or.inl (Or.inl (Or.inl ⟨rfl, rfl, rfl⟩)))))))) (r := (k, 2, 64)) rfl (NP_v np (Or.inl (Or.inr ⟨rfl, rfl, rfl⟩))) e_r64
  replace e_b0 : (s_rf S13 k 0 0 15 r64).1 k 0 0 = b0 := e_b0
  replace e_q8 : (s_rf S13 k 0 0 15 r64).1 k 8 0 = q8 := e_q8
  replace e_q9 : (s_rf S13 k 0 0 15 r64).1 k 9 0 = q9 := e_q9
  replace e_q10 : (s_rf S13 k 0 0 15 r64).1 k 10 0 = q10 := e_q10
  replace e_q7 : (s_rf S13 k 0 0 15 r64).1 k 7 0 = q7 := e_q7
  replace e_c8 : (s_rf S13 k 0 0 15 r64).1 k 1 8 = c8 := e_c8
  replace e_r64 : (s_rf S13 k 0 0 15 r64).1 k 2 64 = r64 := e_r64
  generalize s_rf S13 k 0 0 15 r64 = S14 at np e_b0 e_q8 e_q9 e_q10 e_q7 e_c8 e_r64 ⊢
  refine ca_aload_nr h dX3_init_61 rfl ?_
  refine ca_newO h (ci := 2) k 3 12 hG (hb (NP_v np (by omega))) rfl rfl li_X2 tyX2 tyX2_ok dvX2 rfl kw_78 kw_159 kw_6 ⟨by omega, by omega⟩ dX3_init_62 ?_
  intro m12
  obtain ⟨np', mv⟩ := NP_newO (q := m12) np (hf k 3 12 (by (first | omega | (unfold PN0; omega) | simp)) (by omega)) (by show ¬ ((((((((((k) = k ∧ (3) = 0 ∧ (12) = 0) ∨ ((k) = k ∧ (3) = 8 ∧ (12) = 0)) ∨ ((k) = k ∧ (3) = 9 ∧ (12) = 0)) ∨ ((k) = k ∧ (3) = 10 ∧ (12) = 0)) ∨ ((k) = k ∧ (3) = 7 ∧ (12) = 0)) ∨ ((k) = k ∧ (3) = 1 ∧ (12) = 8)) ∨ ((k) = k ∧ (3) = 1 ∧ (12) = 8)) ∨ ((k) = k ∧ (3) = 2 ∧ (12) = 64)) ∨ ((k) = k ∧ (3) = 2 ∧ (12) = 64)); omega) (by show ¬ ((((((((k) = (k) + 1) ∨ ((k) = k ∧ (3) = 8 ∧ (12) = 0)) ∨ ((k) = k ∧ (3) = 9 ∧ (12) = 0)) ∨ ((k) = k ∧ (3) = 10 ∧ (12) = 0)) ∨ ((k) = k ∧ (3) = 7 ∧ (12) = 0)) ∨ ((k) = k ∧ (3) = 1 ∧ (12) = 8)) ∨ ((k) = k ∧ (3) = 2 ∧ (12) = 64)); omega) (by intro j; show ¬ ((((((((((k) = (k) + 1) ∨ ((k) = k ∧ (3) = 0 ∧ (12) = 0 ∧ (j) = 10)) ∨ ((k) = k ∧ (3) = 0 ∧ (12) = 0 ∧ (j) = 11)) ∨ ((k) = k ∧ (3) = 0 ∧ (12) = 0 ∧ (j) = 12)) ∨ ((k) = k ∧ (3) = 0 ∧ (12) = 0 ∧ (j) = 13)) ∨ ((k) = k ∧ (3) = 1 ∧ (12) = 8)) ∨ ((k) = k ∧ (3) = 0 ∧ (12) = 0 ∧ (j) = 14)) ∨ ((k) = k ∧ (3) = 2 ∧ (12) = 64)) ∨ ((k) = k ∧ (3) = 0 ∧ (12) = 0 ∧ (j) = 15)); omega)
  replace e_b0 := mv k 0 0 _ (NP_v np (Or.inl (Or.inl (Or.inl (Or.inl (Or.inl (Or.inl (Or.inl (Or.inl ⟨rfl, rfl, rfl⟩))))))))) e_b0
  replace e_q8 := mv k 8 0 _ (NP_v np (Or.inl (Or.inl (Or.inl (Or.inl (Or.inl (Or.inl (Or.inl (Or.inr ⟨rfl, rfl, rfl⟩))))))))) e_q8
  replace e_q9 := mv k 9 0 _ (NP_v np (Or.inl (Or.inl (Or.inl (Or.inl (Or.inl (Or.inl (Or.inr ⟨rfl, rfl, rfl⟩)))))))) e_q9
  replace e_q10 := mv k 10 0 _ (NP_v np (Or.inl (Or.inl (Or.inl (Or.inl (Or.inl (Or.inr ⟨rfl, rfl, rfl⟩))))))) e_q10
  replace e_q7 := mv k 7 0 _ (NP_v np (Or.inl (Or.inl (Or.inl (Or.inl (Or.inr ⟨rfl, rfl, rfl⟩)))))) e_q7
  replace e_c8 := mv k 1 8 _ (NP_v np (Or.inl (Or.inl (Or.inl (Or.inr ⟨rfl, rfl, rfl⟩))))) e_c8
  replace e_r64 := mv k 2 64 _ (NP_v np (Or.inl (Or.inr ⟨rfl, rfl, rfl⟩))) e_r64
  have e_m12 := s_ad_s S14 k 3 12 m12
  clear np mv
  generalize s_ad S14 k 3 12 m12 = S15 at np' e_b0 e_q8 e_q9 e_q10 e_q7 e_c8 e_r64 e_m12 ⊢
  replace z_b0 := (ch_z_n (μ := μ13) (k := k) (kd := 3) (i := 12) (show ¬ (k = k ∧ 0 = 3 ∧ 0 = 12) by omega)).trans z_b0
  generalize hz_ : ch_z μ13 k 3 12 = μ15 at np' z_b0 ⊢
  have z_m12 : μ15 k 3 12 = fun _ => 0 := by rw [← hz_]; exact ch_z_0 _ _ _ _
  clear hz_
  have np := np'
  clear np'
  refine ca_dup h dX3_init_65 rfl ?_
  refine ca_tR e_m12 ?_
  refine ca_ctI h hG kw_160 kw_161 kw_6 kw_162 ⟨by decide, by decide, by decide +kernel⟩ rfl (c_X2_init  (NP_v np (Or.inr ⟨rfl, rfl, rfl⟩)) (by exact z_m12) (fun a b c z z' => NP_nv np (hf a b c (by (first | omega | (unfold PN0; omega) | simp)) (by omega)) (fun y => by omega))) rfl rfl ⟨by omega, by omega⟩ rfl dX3_init_66 ?_
  intro S16 μ16 hp
  obtain ⟨np', mv⟩ := NP_callA np hp
  replace e_b0 := mv k 0 0 _ (NP_v np (Or.inl (Or.inl (Or.inl (Or.inl (Or.inl (Or.inl (Or.inl (Or.inl (Or.inl ⟨rfl, rfl, rfl⟩)))))))))) e_b0
  replace e_q8 := mv k 8 0 _ (NP_v np (Or.inl (Or.inl (Or.inl (Or.inl (Or.inl (Or.inl (Or.inl (Or.inl (Or.inr ⟨rfl, rfl, rfl⟩)))))))))) e_q8
  replace e_q9 := mv k 9 0 _ (NP_v np (Or.inl (Or.inl (Or.inl (Or.inl (Or.inl (Or.inl (Or.inl (Or.inr ⟨rfl, rfl, rfl⟩))))))))) e_q9
  replace e_q10 := mv k 10 0 _ (NP_v np (Or.inl (Or.inl (Or.inl (Or.inl (Or.inl (Or.inl (Or.inr ⟨rfl, rfl, rfl⟩)))))))) e_q10
  replace e_q7 := mv k 7 0 _ (NP_v np (Or.inl (Or.inl (Or.inl (Or.inl (Or.inl (Or.inr ⟨rfl, rfl, rfl⟩))))))) e_q7
  replace e_c8 := mv k 1 8 _ (NP_v np (Or.inl (Or.inl (Or.inl (Or.inl (Or.inr ⟨rfl, rfl, rfl⟩)))))) e_c8
  replace e_r64 := mv k 2 64 _ (NP_v np (Or.inl (Or.inl (Or.inr ⟨rfl, rfl, rfl⟩)))) e_r64
  replace e_m12 := mv k 3 12 _ (NP_v np (Or.inr ⟨rfl, rfl, rfl⟩)) e_m12
  replace z_b0 := (hp.2.2.1 k 0 0 (by (first | omega | (unfold PN0; omega) | simp))).2.trans z_b0
  clear np mv hp
  have np := np'
  clear np'
  refine ca_putR (ci := 3) (j := 16) (ty := tyX3 16) h rfl rfl li_X3 tyX3 tyX3_ok nmX3 rfl (NP_v np (Or.inl (Or.inl (Or.inl (Or.inl (Or.inl (Or.inl (Or.inl (Or.inl (Or.inl (Or.inl ⟨rfl, rfl, rfl⟩))))))))))) e_b0 (by decide) rfl kw_272 rfl hnm rfl (tyX3_ok 16 (by decide)) rfl rfl dX3_init_69 ?_
  replace np := NP_rfA np (j := 16) (Or.inl (Or.inl (Or.inl (Or.inl (Or.inl (Or.inl (Or.inl (Or.inl (Or.inl (Or.inl ⟨rfl, rfl, rfl⟩)))))))))) (r := (k, 3, 12)) rfl (NP_v np (Or.inl (Or.inr ⟨rfl, rfl, rfl⟩))) e_m12
  replace e_b0 : (s_rf S16 k 0 0 16 m12).1 k 0 0 = b0 := e_b0
  replace e_q8 : (s_rf S16 k 0 0 16 m12).1 k 8 0 = q8 := e_q8
  replace e_q9 : (s_rf S16 k 0 0 16 m12).1 k 9 0 = q9 := e_q9
  replace e_q10 : (s_rf S16 k 0 0 16 m12).1 k 10 0 = q10 := e_q10
  replace e_q7 : (s_rf S16 k 0 0 16 m12).1 k 7 0 = q7 := e_q7
  replace e_c8 : (s_rf S16 k 0 0 16 m12).1 k 1 8 = c8 := e_c8
  replace e_r64 : (s_rf S16 k 0 0 16 m12).1 k 2 64 = r64 := e_r64
  replace e_m12 : (s_rf S16 k 0 0 16 m12).1 k 3 12 = m12 := e_m12
  generalize s_rf S16 k 0 0 16 m12 = S17 at np e_b0 e_q8 e_q9 e_q10 e_q7 e_c8 e_r64 e_m12 ⊢
  refine ca_aload_nr h dX3_init_72 rfl ?_
  refine ca_tR e_b0 ?_
  refine ca_vv h hG ml_X3_48 (c_X3_setDefaults0 (NP_v np (Or.inl (Or.inl (Or.inl (Or.inl (Or.inl (Or.inl (Or.inl (Or.inl (Or.inl (Or.inl ⟨rfl, rfl, rfl⟩)))))))))))) (ci := 3) rfl rfl rfl (NP_v np (Or.inl (Or.inl (Or.inl (Or.inl (Or.inl (Or.inl (Or.inl (Or.inl (Or.inl (Or.inl ⟨rfl, rfl, rfl⟩))))))))))) rfl rfl rfl rfl ⟨by omega, by omega⟩ rfl dX3_init_73 ?_
  replace np := NP_memA (μ' := up μ16 k (k_dfl (μ16 k))) np (Or.inl (Or.inl (Or.inl (Or.inl (Or.inl (Or.inl (Or.inl (Or.inl (Or.inl (Or.inl ⟨rfl, rfl, rfl⟩)))))))))) (fun a b c e => k_dfl_n e) (k_dfl_z z_b0)
  generalize up μ16 k (k_dfl (μ16 k)) = μD at np ⊢
  refine ca_iconst h dX3_init_76 ik_0 ?_
  refine ca_istore_n h dX3_init_77 rfl ?_
  have loop_78 : ∀ (jj n : Nat), n + jj = 8 → ∀ (x : Int32) (ex : x = nI n) (S9 : ch_S) (μ9 : ch_M) (np : NP S S9 μ μ9 (fun a b c => (((((a = k ∧ (b = 0 ∨ (7 ≤ b ∧ b ≤ 10)) ∧ c = 0) ∨ (a = k ∧ b = 1 ∧ c = 8)) ∨ (a = k ∧ b = 2 ∧ c = 64)) ∨ (a = k ∧ 3 ≤ b ∧ b ≤ 6 ∧ c = 12)) ∨ (a = k ∧ b = 1 ∧ c < n))) (fun a b c => (((((a = k ∧ (b = 0 ∨ (7 ≤ b ∧ b ≤ 10)) ∧ c = 0) ∨ (a = k ∧ b = 1 ∧ c = 8)) ∨ (a = k ∧ b = 2 ∧ c = 64)) ∨ (a = k ∧ 3 ≤ b ∧ b ≤ 6 ∧ c = 12)) ∨ (a = k ∧ b = 1 ∧ c < n))) (fun a b c j => (((a = k ∧ b = 0 ∧ c = 0) ∨ (a = k ∧ b = 3 ∧ c = 12)) ∨ (a = k ∧ b = 8 ∧ c = 0 ∧ j < n)))) (e_b0 : S9.1 k 0 0 = b0), ch_W X E 2 S9 μ9 (10 + 1 * n) (198 + 9 * n) 78 [(0, .ref b0), (1, .int x)] [] := by
    intro jj
    induction jj with
    | zero =>
      intro n hn x ex S9 μ9 np e_b0
      have hn : n = 8 := by omega
      subst hn ex
      refine ca_iload_n h dX3_init_78 rfl ?_
      refine ca_aload_nr h dX3_init_79 rfl ?_
      refine ca_tR e_b0 ?_
      refine gr_X3_11 h (NP_v np (by show ((((((k) = k ∧ ((0) = 0 ∨ (7 ≤ (0) ∧ (0) ≤ 10)) ∧ (0) = 0) ∨ ((k) = k ∧ (0) = 1 ∧ (0) = 8)) ∨ ((k) = k ∧ (0) = 2 ∧ (0) = 64)) ∨ ((k) = k ∧ 3 ≤ (0) ∧ (0) ≤ 6 ∧ (0) = 12)) ∨ ((k) = k ∧ (0) = 1 ∧ (0) < 8)); omega)) (np.2.2.2.2 k 0 0 10 (k, 8, 0) (by show ((((((k) = k ∧ ((0) = 0 ∨ (7 ≤ (0) ∧ (0) ≤ 10)) ∧ (0) = 0) ∨ ((k) = k ∧ (0) = 1 ∧ (0) = 8)) ∨ ((k) = k ∧ (0) = 2 ∧ (0) = 64)) ∨ ((k) = k ∧ 3 ≤ (0) ∧ (0) ≤ 6 ∧ (0) = 12)) ∨ ((k) = k ∧ (0) = 1 ∧ (0) < 8)); omega) (by show ((((k) = k ∧ (0) = 0 ∧ (0) = 0) ∨ ((k) = k ∧ (0) = 3 ∧ (0) = 12)) ∨ ((k) = k ∧ (0) = 8 ∧ (0) = 0 ∧ (10) < 8)); omega) rfl).2 dX3_init_80 ?_
      show ch_W _ _ _ _ _ _ _ _ _ (.ref (S9.1 k 8 0) :: _)
      obtain ⟨q8, e_q8⟩ : ∃ z, S9.1 k 8 0 = z := ⟨_, rfl⟩
      rw [e_q8]
      refine ca_tR e_q8 ?_
      refine ca_alenq h rfl (by decide) (NP_v np (by show ((((((k) = k ∧ ((8) = 0 ∨ (7 ≤ (8) ∧ (8) ≤ 10)) ∧ (0) = 0) ∨ ((k) = k ∧ (8) = 1 ∧ (0) = 8)) ∨ ((k) = k ∧ (8) = 2 ∧ (0) = 64)) ∨ ((k) = k ∧ 3 ≤ (8) ∧ (8) ≤ 6 ∧ (0) = 12)) ∨ ((k) = k ∧ (8) = 1 ∧ (0) < 8)); omega)) (v := 8) rfl dX3_init_83 ?_
      refine ca_icmp_ge (tgt := 106) h dX3_init_84 (by decide) (fun c_84 => ?_) (fun c_84 => ?_)
      rotate_left
      · exact absurd c_84 (by decide)
      refine ca_iconst h dX3_init_106 ik_0 ?_
      refine ca_istore_n h dX3_init_107 rfl ?_
      have loop_108 : ∀ (jj n : Nat), n + jj = 64 → ∀ (x : Int32) (ex : x = nI n) (S9 : ch_S) (μ9 : ch_M) (np : NP S S9 μ μ9 (fun a b c => ((((((a = k ∧ (b = 0 ∨ (7 ≤ b ∧ b ≤ 10)) ∧ c = 0) ∨ (a = k ∧ b = 1 ∧ c = 8)) ∨ (a = k ∧ b = 2 ∧ c = 64)) ∨ (a = k ∧ 3 ≤ b ∧ b ≤ 6 ∧ c = 12)) ∨ (a = k ∧ b = 1 ∧ c < 8)) ∨ (a = k ∧ b = 2 ∧ c < n))) (fun a b c => ((((((a = k ∧ (b = 0 ∨ (7 ≤ b ∧ b ≤ 10)) ∧ c = 0) ∨ (a = k ∧ b = 1 ∧ c = 8)) ∨ (a = k ∧ b = 2 ∧ c = 64)) ∨ (a = k ∧ 3 ≤ b ∧ b ≤ 6 ∧ c = 12)) ∨ (a = k ∧ b = 1 ∧ c < 8)) ∨ (a = k ∧ b = 2 ∧ c < n))) (fun a b c j => ((((a = k ∧ b = 0 ∧ c = 0) ∨ (a = k ∧ b = 3 ∧ c = 12)) ∨ (a = k ∧ b = 8 ∧ c = 0)) ∨ (a = k ∧ b = 9 ∧ c = 0 ∧ j < n)))) (e_b0 : S9.1 k 0 0 = b0), ch_W X E 2 S9 μ9 (18 + 1 * n) (270 + 4 * n) 108 [(0, .ref b0), (1, .int x)] [] := by
        intro jj
        induction jj with
        | zero =>
          intro n hn x ex S9 μ9 np e_b0
          have hn : n = 64 := by omega
          subst hn ex
          refine ca_iload_n h dX3_init_108 rfl ?_
          refine ca_aload_nr h dX3_init_109 rfl ?_
          refine ca_tR e_b0 ?_
          refine gr_X3_19 h (NP_v np (by show (((((((k) = k ∧ ((0) = 0 ∨ (7 ≤ (0) ∧ (0) ≤ 10)) ∧ (0) = 0) ∨ ((k) = k ∧ (0) = 1 ∧ (0) = 8)) ∨ ((k) = k ∧ (0) = 2 ∧ (0) = 64)) ∨ ((k) = k ∧ 3 ≤ (0) ∧ (0) ≤ 6 ∧ (0) = 12)) ∨ ((k) = k ∧ (0) = 1 ∧ (0) < 8)) ∨ ((k) = k ∧ (0) = 2 ∧ (0) < 64)); omega)) (np.2.2.2.2 k 0 0 11 (k, 9, 0) (by show (((((((k) = k ∧ ((0) = 0 ∨ (7 ≤ (0) ∧ (0) ≤ 10)) ∧ (0) = 0) ∨ ((k) = k ∧ (0) = 1 ∧ (0) = 8)) ∨ ((k) = k ∧ (0) = 2 ∧ (0) = 64)) ∨ ((k) = k ∧ 3 ≤ (0) ∧ (0) ≤ 6 ∧ (0) = 12)) ∨ ((k) = k ∧ (0) = 1 ∧ (0) < 8)) ∨ ((k) = k ∧ (0) = 2 ∧ (0) < 64)); omega) (by show (((((k) = k ∧ (0) = 0 ∧ (0) = 0) ∨ ((k) = k ∧ (0) = 3 ∧ (0) = 12)) ∨ ((k) = k ∧ (0) = 8 ∧ (0) = 0)) ∨ ((k) = k ∧ (0) = 9 ∧ (0) = 0 ∧ (11) < 64)); omega) rfl).2 dX3_init_110 ?_
          show ch_W _ _ _ _ _ _ _ _ _ (.ref (S9.1 k 9 0) :: _)
          obtain ⟨q9, e_q9⟩ : ∃ z, S9.1 k 9 0 = z := ⟨_, rfl⟩
          rw [e_q9]
          refine ca_tR e_q9 ?_
          refine ca_alenq h rfl (by decide) (NP_v np (by show (((((((k) = k ∧ ((9) = 0 ∨ (7 ≤ (9) ∧ (9) ≤ 10)) ∧ (0) = 0) ∨ ((k) = k ∧ (9) = 1 ∧ (0) = 8)) ∨ ((k) = k ∧ (9) = 2 ∧ (0) = 64)) ∨ ((k) = k ∧ 3 ≤ (9) ∧ (9) ≤ 6 ∧ (0) = 12)) ∨ ((k) = k ∧ (9) = 1 ∧ (0) < 8)) ∨ ((k) = k ∧ (9) = 2 ∧ (0) < 64)); omega)) (v := 64) rfl dX3_init_113 ?_
          refine ca_icmp_ge (tgt := 136) h dX3_init_114 (by decide) (fun c_114 => ?_) (fun c_114 => ?_)
          rotate_left
          · exact absurd c_114 (by decide)
          refine ca_iconst h dX3_init_136 ik_0 ?_
          refine ca_istore_n h dX3_init_137 rfl ?_
          have loop_138 : ∀ (jj n : Nat), n + jj = 12 → ∀ (x : Int32) (ex : x = nI n) (S9 : ch_S) (μ9 : ch_M) (np : NP S S9 μ μ9 (fun a b c => (((((((a = k ∧ (b = 0 ∨ (7 ≤ b ∧ b ≤ 10)) ∧ c = 0) ∨ (a = k ∧ b = 1 ∧ c = 8)) ∨ (a = k ∧ b = 2 ∧ c = 64)) ∨ (a = k ∧ 3 ≤ b ∧ b ≤ 6 ∧ c = 12)) ∨ (a = k ∧ b = 1 ∧ c < 8)) ∨ (a = k ∧ b = 2 ∧ c < 64)) ∨ (a = k ∧ 3 ≤ b ∧ b ≤ 6 ∧ c < n))) (fun a b c => (((((((a = k ∧ (b = 0 ∨ (7 ≤ b ∧ b ≤ 10)) ∧ c = 0) ∨ (a = k ∧ b = 1 ∧ c = 8)) ∨ (a = k ∧ b = 2 ∧ c = 64)) ∨ (a = k ∧ 3 ≤ b ∧ b ≤ 6 ∧ c = 12)) ∨ (a = k ∧ b = 1 ∧ c < 8)) ∨ (a = k ∧ b = 2 ∧ c < 64)) ∨ (a = k ∧ 3 ≤ b ∧ b ≤ 6 ∧ c < n))) (fun a b c j => ((((((a = k ∧ b = 0 ∧ c = 0) ∨ (a = k ∧ b = 3 ∧ c = 12)) ∨ (a = k ∧ b = 8 ∧ c = 0)) ∨ (a = k ∧ b = 9 ∧ c = 0)) ∨ (a = k ∧ b = 10 ∧ c = 0 ∧ j < n)) ∨ (a = k ∧ b = 3 ∧ c < n)))) (e_b0 : S9.1 k 0 0 = b0), ch_W X E 2 S9 μ9 (82 + 4 * n) (526 + 93 * n) 138 [(0, .ref b0), (1, .int x)] [] := by
            intro jj
            induction jj with
            | zero =>
              intro n hn x ex S9 μ9 np e_b0
              have hn : n = 12 := by omega
              subst hn ex
              refine ca_iload_n h dX3_init_138 rfl ?_
              refine ca_aload_nr h dX3_init_139 rfl ?_
              refine ca_tR e_b0 ?_
              refine gr_X3_25 h (NP_v np (by show ((((((((k) = k ∧ ((0) = 0 ∨ (7 ≤ (0) ∧ (0) ≤ 10)) ∧ (0) = 0) ∨ ((k) = k ∧ (0) = 1 ∧ (0) = 8)) ∨ ((k) = k ∧ (0) = 2 ∧ (0) = 64)) ∨ ((k) = k ∧ 3 ≤ (0) ∧ (0) ≤ 6 ∧ (0) = 12)) ∨ ((k) = k ∧ (0) = 1 ∧ (0) < 8)) ∨ ((k) = k ∧ (0) = 2 ∧ (0) < 64)) ∨ ((k) = k ∧ 3 ≤ (0) ∧ (0) ≤ 6 ∧ (0) < 12)); omega)) (np.2.2.2.2 k 0 0 12 (k, 10, 0) (by show ((((((((k) = k ∧ ((0) = 0 ∨ (7 ≤ (0) ∧ (0) ≤ 10)) ∧ (0) = 0) ∨ ((k) = k ∧ (0) = 1 ∧ (0) = 8)) ∨ ((k) = k ∧ (0) = 2 ∧ (0) = 64)) ∨ ((k) = k ∧ 3 ≤ (0) ∧ (0) ≤ 6 ∧ (0) = 12)) ∨ ((k) = k ∧ (0) = 1 ∧ (0) < 8)) ∨ ((k) = k ∧ (0) = 2 ∧ (0) < 64)) ∨ ((k) = k ∧ 3 ≤ (0) ∧ (0) ≤ 6 ∧ (0) < 12)); omega) (by show (((((((k) = k ∧ (0) = 0 ∧ (0) = 0) ∨ ((k) = k ∧ (0) = 3 ∧ (0) = 12)) ∨ ((k) = k ∧ (0) = 8 ∧ (0) = 0)) ∨ ((k) = k ∧ (0) = 9 ∧ (0) = 0)) ∨ ((k) = k ∧ (0) = 10 ∧ (0) = 0 ∧ (12) < 12)) ∨ ((k) = k ∧ (0) = 3 ∧ (0) < 12)); omega) rfl).2 dX3_init_140 ?_
              show ch_W _ _ _ _ _ _ _ _ _ (.ref (S9.1 k 10 0) :: _)
              obtain ⟨q10, e_q10⟩ : ∃ z, S9.1 k 10 0 = z := ⟨_, rfl⟩
              rw [e_q10]
              refine ca_tR e_q10 ?_
              refine ca_alenq h rfl (by decide) (NP_v np (by show ((((((((k) = k ∧ ((10) = 0 ∨ (7 ≤ (10) ∧ (10) ≤ 10)) ∧ (0) = 0) ∨ ((k) = k ∧ (10) = 1 ∧ (0) = 8)) ∨ ((k) = k ∧ (10) = 2 ∧ (0) = 64)) ∨ ((k) = k ∧ 3 ≤ (10) ∧ (10) ≤ 6 ∧ (0) = 12)) ∨ ((k) = k ∧ (10) = 1 ∧ (0) < 8)) ∨ ((k) = k ∧ (10) = 2 ∧ (0) < 64)) ∨ ((k) = k ∧ 3 ≤ (10) ∧ (10) ≤ 6 ∧ (0) < 12)); omega)) (v := 12) rfl dX3_init_143 ?_
              refine ca_icmp_ge (tgt := 166) h dX3_init_144 (by decide) (fun c_144 => ?_) (fun c_144 => ?_)
              rotate_left
              · exact absurd c_144 (by decide)
              refine ca_room (kc' := 130) (ks' := 1642) (by omega) (by omega) ?_
              refine ca_vreturn h hR dX3_init_166 ⟨rfl, ?_⟩
              exact NP_w np (by intro a b c; (by_cases ha : a = k; (· (subst ha; rcases (show b = 0 ∨ b = 1 ∨ b = 2 ∨ b = 3 ∨ b = 4 ∨ b = 5 ∨ b = 6 ∨ b = 7 ∨ b = 8 ∨ b = 9 ∨ b = 10 ∨ 10 < b by omega) with rfl | rfl | rfl | rfl | rfl | rfl | rfl | rfl | rfl | rfl | rfl | hb9 <;> (simp [PN0] <;> omega))); (· simp [ha]))) (by intro a b c; (by_cases ha : a = k; (· (subst ha; rcases (show b = 0 ∨ b = 1 ∨ b = 2 ∨ b = 3 ∨ b = 4 ∨ b = 5 ∨ b = 6 ∨ b = 7 ∨ b = 8 ∨ b = 9 ∨ b = 10 ∨ 10 < b by omega) with rfl | rfl | rfl | rfl | rfl | rfl | rfl | rfl | rfl | rfl | rfl | hb9 <;> (simp [PN0] <;> omega))); (· simp [ha]))) (fun a b c j r d z e => (show ∀ a b c j, ((b = 0 ∧ 10 ≤ j ∧ j ≤ 16) ∨ (b = 3 ∧ 10 ≤ j ∧ j ≤ 12) ∨ (b = 8 ∧ j < 8) ∨ (b = 9 ∧ j < 64) ∨ (b = 10 ∧ j < 12) ∨ (b = 11 ∧ j ≤ 6) ∨ (b = 12 ∧ j = 3) ∨ (b = 14 ∧ j = 2) ∨ (b = 15 ∧ j < 12) ∨ (b = 16 ∧ j = 0) ∨ (b = 17 ∧ (j = 2 ∨ j = 3)) ∨ (b = 20 ∧ j = 0) ∨ (b = 22 ∧ (j ≤ 4 ∨ j = 8 ∨ j = 9 ∨ j = 11 ∨ (21 ≤ j ∧ j ≤ 23)))) → (fun a b c => (((((((a = k ∧ (b = 0 ∨ (7 ≤ b ∧ b ≤ 10)) ∧ c = 0) ∨ (a = k ∧ b = 1 ∧ c = 8)) ∨ (a = k ∧ b = 2 ∧ c = 64)) ∨ (a = k ∧ 3 ≤ b ∧ b ≤ 6 ∧ c = 12)) ∨ (a = k ∧ b = 1 ∧ c < 8)) ∨ (a = k ∧ b = 2 ∧ c < 64)) ∨ (a = k ∧ 3 ≤ b ∧ b ≤ 6 ∧ c < 12))) a b c → True → (fun a b c j => ((((((a = k ∧ b = 0 ∧ c = 0) ∨ (a = k ∧ b = 3 ∧ c = 12)) ∨ (a = k ∧ b = 8 ∧ c = 0)) ∨ (a = k ∧ b = 9 ∧ c = 0)) ∨ (a = k ∧ b = 10 ∧ c = 0 ∧ j < 12)) ∨ (a = k ∧ b = 3 ∧ c < 12))) a b c j by intro a b c j; (by_cases ha : a = k; (· (subst ha; rcases (show b = 0 ∨ b = 1 ∨ b = 2 ∨ b = 3 ∨ b = 4 ∨ b = 5 ∨ b = 6 ∨ b = 7 ∨ b = 8 ∨ b = 9 ∨ b = 10 ∨ 10 < b by omega) with rfl | rfl | rfl | rfl | rfl | rfl | rfl | rfl | rfl | rfl | rfl | hb9 <;> (simp [PN0] <;> omega))); (· simp [ha]))) a b c j (ch_rt_j e) d z)
            | succ jj ih_138 =>
              intro n hn x ex S9 μ9 np e_b0
              have hn1 : n < 12 := by omega
              subst ex
              refine ca_iload_n h dX3_init_138 rfl ?_
              refine ca_aload_nr h dX3_init_139 rfl ?_
              refine ca_tR e_b0 ?_
              refine gr_X3_25 h (NP_v np (by show ((((((((k) = k ∧ ((0) = 0 ∨ (7 ≤ (0) ∧ (0) ≤ 10)) ∧ (0) = 0) ∨ ((k) = k ∧ (0) = 1 ∧ (0) = 8)) ∨ ((k) = k ∧ (0) = 2 ∧ (0) = 64)) ∨ ((k) = k ∧ 3 ≤ (0) ∧ (0) ≤ 6 ∧ (0) = 12)) ∨ ((k) = k ∧ (0) = 1 ∧ (0) < 8)) ∨ ((k) = k ∧ (0) = 2 ∧ (0) < 64)) ∨ ((k) = k ∧ 3 ≤ (0) ∧ (0) ≤ 6 ∧ (0) < n)); omega)) (np.2.2.2.2 k 0 0 12 (k, 10, 0) (by show ((((((((k) = k ∧ ((0) = 0 ∨ (7 ≤ (0) ∧ (0) ≤ 10)) ∧ (0) = 0) ∨ ((k) = k ∧ (0) = 1 ∧ (0) = 8)) ∨ ((k) = k ∧ (0) = 2 ∧ (0) = 64)) ∨ ((k) = k ∧ 3 ≤ (0) ∧ (0) ≤ 6 ∧ (0) = 12)) ∨ ((k) = k ∧ (0) = 1 ∧ (0) < 8)) ∨ ((k) = k ∧ (0) = 2 ∧ (0) < 64)) ∨ ((k) = k ∧ 3 ≤ (0) ∧ (0) ≤ 6 ∧ (0) < n)); omega) (by show (((((((k) = k ∧ (0) = 0 ∧ (0) = 0) ∨ ((k) = k ∧ (0) = 3 ∧ (0) = 12)) ∨ ((k) = k ∧ (0) = 8 ∧ (0) = 0)) ∨ ((k) = k ∧ (0) = 9 ∧ (0) = 0)) ∨ ((k) = k ∧ (0) = 10 ∧ (0) = 0 ∧ (12) < n)) ∨ ((k) = k ∧ (0) = 3 ∧ (0) < n)); omega) rfl).2 dX3_init_140 ?_
              show ch_W _ _ _ _ _ _ _ _ _ (.ref (S9.1 k 10 0) :: _)
              obtain ⟨q10, e_q10⟩ : ∃ z, S9.1 k 10 0 = z := ⟨_, rfl⟩
              rw [e_q10]
              refine ca_tR e_q10 ?_
              refine ca_alenq h rfl (by decide) (NP_v np (by show ((((((((k) = k ∧ ((10) = 0 ∨ (7 ≤ (10) ∧ (10) ≤ 10)) ∧ (0) = 0) ∨ ((k) = k ∧ (10) = 1 ∧ (0) = 8)) ∨ ((k) = k ∧ (10) = 2 ∧ (0) = 64)) ∨ ((k) = k ∧ 3 ≤ (10) ∧ (10) ≤ 6 ∧ (0) = 12)) ∨ ((k) = k ∧ (10) = 1 ∧ (0) < 8)) ∨ ((k) = k ∧ (10) = 2 ∧ (0) < 64)) ∨ ((k) = k ∧ 3 ≤ (10) ∧ (10) ≤ 6 ∧ (0) < n)); omega)) (v := 12) rfl dX3_init_143 ?_
              refine ca_icmp_ge (tgt := 166) h dX3_init_144 (by decide) (fun c_144 => ?_) (fun c_144 => ?_)
              · exact absurd (nI_lt hn1 (by decide)) c_144
              refine ca_aload_nr h dX3_init_147 rfl ?_
              refine ca_tR e_b0 ?_
              refine gr_X3_25 h (NP_v np (by show ((((((((k) = k ∧ ((0) = 0 ∨ (7 ≤ (0) ∧ (0) ≤ 10)) ∧ (0) = 0) ∨ ((k) = k ∧ (0) = 1 ∧ (0) = 8)) ∨ ((k) = k ∧ (0) = 2 ∧ (0) = 64)) ∨ ((k) = k ∧ 3 ≤ (0) ∧ (0) ≤ 6 ∧ (0) = 12)) ∨ ((k) = k ∧ (0) = 1 ∧ (0) < 8)) ∨ ((k) = k ∧ (0) = 2 ∧ (0) < 64)) ∨ ((k) = k ∧ 3 ≤ (0) ∧ (0) ≤ 6 ∧ (0) < n)); omega)) (np.2.2.2.2 k 0 0 12 (k, 10, 0) (by show ((((((((k) = k ∧ ((0) = 0 ∨ (7 ≤ (0) ∧ (0) ≤ 10)) ∧ (0) = 0) ∨ ((k) = k ∧ (0) = 1 ∧ (0) = 8)) ∨ ((k) = k ∧ (0) = 2 ∧ (0) = 64)) ∨ ((k) = k ∧ 3 ≤ (0) ∧ (0) ≤ 6 ∧ (0) = 12)) ∨ ((k) = k ∧ (0) = 1 ∧ (0) < 8)) ∨ ((k) = k ∧ (0) = 2 ∧ (0) < 64)) ∨ ((k) = k ∧ 3 ≤ (0) ∧ (0) ≤ 6 ∧ (0) < n)); omega) (by show (((((((k) = k ∧ (0) = 0 ∧ (0) = 0) ∨ ((k) = k ∧ (0) = 3 ∧ (0) = 12)) ∨ ((k) = k ∧ (0) = 8 ∧ (0) = 0)) ∨ ((k) = k ∧ (0) = 9 ∧ (0) = 0)) ∨ ((k) = k ∧ (0) = 10 ∧ (0) = 0 ∧ (12) < n)) ∨ ((k) = k ∧ (0) = 3 ∧ (0) < n)); omega) rfl).2 dX3_init_148 ?_
              show ch_W _ _ _ _ _ _ _ _ _ (.ref (S9.1 k 10 0) :: _)
              rw [e_q10]
              refine ca_iload_n h dX3_init_151 rfl ?_
              refine ca_newO h (ci := 2) k 3 n hG (hb (NP_v np (by omega))) rfl rfl li_X2 tyX2 tyX2_ok dvX2 rfl kw_78 kw_159 kw_6 ⟨by omega, by omega⟩ dX3_init_152 ?_
              intro mn
              obtain ⟨np', mv⟩ := NP_newO (q := mn) np (hf k 3 n (by (first | omega | (unfold PN0; omega) | simp)) (by omega)) (by show ¬ ((((((((k) = k ∧ ((3) = 0 ∨ (7 ≤ (3) ∧ (3) ≤ 10)) ∧ (n) = 0) ∨ ((k) = k ∧ (3) = 1 ∧ (n) = 8)) ∨ ((k) = k ∧ (3) = 2 ∧ (n) = 64)) ∨ ((k) = k ∧ 3 ≤ (3) ∧ (3) ≤ 6 ∧ (n) = 12)) ∨ ((k) = k ∧ (3) = 1 ∧ (n) < 8)) ∨ ((k) = k ∧ (3) = 2 ∧ (n) < 64)) ∨ ((k) = k ∧ 3 ≤ (3) ∧ (3) ≤ 6 ∧ (n) < n)); omega) (by show ¬ ((((((((k) = k ∧ ((3) = 0 ∨ (7 ≤ (3) ∧ (3) ≤ 10)) ∧ (n) = 0) ∨ ((k) = k ∧ (3) = 1 ∧ (n) = 8)) ∨ ((k) = k ∧ (3) = 2 ∧ (n) = 64)) ∨ ((k) = k ∧ 3 ≤ (3) ∧ (3) ≤ 6 ∧ (n) = 12)) ∨ ((k) = k ∧ (3) = 1 ∧ (n) < 8)) ∨ ((k) = k ∧ (3) = 2 ∧ (n) < 64)) ∨ ((k) = k ∧ 3 ≤ (3) ∧ (3) ≤ 6 ∧ (n) < n)); omega) (by intro j; show ¬ (((((((k) = k ∧ (3) = 0 ∧ (n) = 0) ∨ ((k) = k ∧ (3) = 3 ∧ (n) = 12)) ∨ ((k) = k ∧ (3) = 8 ∧ (n) = 0)) ∨ ((k) = k ∧ (3) = 9 ∧ (n) = 0)) ∨ ((k) = k ∧ (3) = 10 ∧ (n) = 0 ∧ (j) < n)) ∨ ((k) = k ∧ (3) = 3 ∧ (n) < n)); omega)
              replace e_b0 := mv k 0 0 _ (NP_v np (by show ((((((((k) = k ∧ ((0) = 0 ∨ (7 ≤ (0) ∧ (0) ≤ 10)) ∧ (0) = 0) ∨ ((k) = k ∧ (0) = 1 ∧ (0) = 8)) ∨ ((k) = k ∧ (0) = 2 ∧ (0) = 64)) ∨ ((k) = k ∧ 3 ≤ (0) ∧ (0) ≤ 6 ∧ (0) = 12)) ∨ ((k) = k ∧ (0) = 1 ∧ (0) < 8)) ∨ ((k) = k ∧ (0) = 2 ∧ (0) < 64)) ∨ ((k) = k ∧ 3 ≤ (0) ∧ (0) ≤ 6 ∧ (0) < n)); omega)) e_b0
              replace e_q10 := mv k 10 0 _ (NP_v np (by show ((((((((k) = k ∧ ((10) = 0 ∨ (7 ≤ (10) ∧ (10) ≤ 10)) ∧ (0) = 0) ∨ ((k) = k ∧ (10) = 1 ∧ (0) = 8)) ∨ ((k) = k ∧ (10) = 2 ∧ (0) = 64)) ∨ ((k) = k ∧ 3 ≤ (10) ∧ (10) ≤ 6 ∧ (0) = 12)) ∨ ((k) = k ∧ (10) = 1 ∧ (0) < 8)) ∨ ((k) = k ∧ (10) = 2 ∧ (0) < 64)) ∨ ((k) = k ∧ 3 ≤ (10) ∧ (10) ≤ 6 ∧ (0) < n)); omega)) e_q10
              have e_mn := s_ad_s S9 k 3 n mn
              clear np mv
              generalize s_ad S9 k 3 n mn = S18 at np' e_b0 e_q10 e_mn ⊢
              generalize hz_ : ch_z μ9 k 3 n = μ18 at np'  ⊢
              have z_mn : μ18 k 3 n = fun _ => 0 := by rw [← hz_]; exact ch_z_0 _ _ _ _
              clear hz_
              have np := np'
              clear np'
              refine ca_dup h dX3_init_155 rfl ?_
              refine ca_tR e_mn ?_
              refine ca_ctI h hG kw_160 kw_161 kw_6 kw_162 ⟨by decide, by decide, by decide +kernel⟩ rfl (c_X2_init  (NP_v np (Or.inr ⟨rfl, rfl, rfl⟩)) (by exact z_mn) (fun a b c z z' => NP_nv np (hf a b c (by (first | omega | (unfold PN0; omega) | simp)) (by omega)) (fun y => by omega))) rfl rfl ⟨by omega, by omega⟩ rfl dX3_init_156 ?_
              intro S19 μ19 hp
              obtain ⟨np', mv⟩ := NP_callA np hp
              replace e_b0 := mv k 0 0 _ (NP_v np (by show (((((((((k) = k ∧ ((0) = 0 ∨ (7 ≤ (0) ∧ (0) ≤ 10)) ∧ (0) = 0) ∨ ((k) = k ∧ (0) = 1 ∧ (0) = 8)) ∨ ((k) = k ∧ (0) = 2 ∧ (0) = 64)) ∨ ((k) = k ∧ 3 ≤ (0) ∧ (0) ≤ 6 ∧ (0) = 12)) ∨ ((k) = k ∧ (0) = 1 ∧ (0) < 8)) ∨ ((k) = k ∧ (0) = 2 ∧ (0) < 64)) ∨ ((k) = k ∧ 3 ≤ (0) ∧ (0) ≤ 6 ∧ (0) < n)) ∨ ((k) = k ∧ (0) = 3 ∧ (0) = n)); omega)) e_b0
              replace e_q10 := mv k 10 0 _ (NP_v np (by show (((((((((k) = k ∧ ((10) = 0 ∨ (7 ≤ (10) ∧ (10) ≤ 10)) ∧ (0) = 0) ∨ ((k) = k ∧ (10) = 1 ∧ (0) = 8)) ∨ ((k) = k ∧ (10) = 2 ∧ (0) = 64)) ∨ ((k) = k ∧ 3 ≤ (10) ∧ (10) ≤ 6 ∧ (0) = 12)) ∨ ((k) = k ∧ (10) = 1 ∧ (0) < 8)) ∨ ((k) = k ∧ (10) = 2 ∧ (0) < 64)) ∨ ((k) = k ∧ 3 ≤ (10) ∧ (10) ≤ 6 ∧ (0) < n)) ∨ ((k) = k ∧ (10) = 3 ∧ (0) = n)); omega)) e_q10
              replace e_mn := mv k 3 n _ (NP_v np (Or.inr ⟨rfl, rfl, rfl⟩)) e_mn
              clear np mv hp
              have np := np'
              clear np'
              refine ca_asto h (t := 3) (n := 12) (ci := 2) rfl (by decide) rfl (NP_v np (by show ((((((((((k) = k ∧ ((10) = 0 ∨ (7 ≤ (10) ∧ (10) ≤ 10)) ∧ (0) = 0) ∨ ((k) = k ∧ (10) = 1 ∧ (0) = 8)) ∨ ((k) = k ∧ (10) = 2 ∧ (0) = 64)) ∨ ((k) = k ∧ 3 ≤ (10) ∧ (10) ≤ 6 ∧ (0) = 12)) ∨ ((k) = k ∧ (10) = 1 ∧ (0) < 8)) ∨ ((k) = k ∧ (10) = 2 ∧ (0) < 64)) ∨ ((k) = k ∧ 3 ≤ (10) ∧ (10) ≤ 6 ∧ (0) < n)) ∨ ((k) = k ∧ (10) = 3 ∧ (0) = n)) ∨ ((k) = k ∧ 3 ≤ (10) ∧ (10) ≤ 6 ∧ (0) = n)); omega)) (NP_v np (Or.inl (Or.inr ⟨rfl, rfl, rfl⟩))) rfl rfl e_q10 e_mn (vp_in_nI hn1 (by decide)) dX3_init_159 ?_
              rw [nI_clamp (show n < 2 ^ 31 by omega)]
              replace np := NP_rfA np (j := n) (by show ((((((((((k) = k ∧ ((10) = 0 ∨ (7 ≤ (10) ∧ (10) ≤ 10)) ∧ (0) = 0) ∨ ((k) = k ∧ (10) = 1 ∧ (0) = 8)) ∨ ((k) = k ∧ (10) = 2 ∧ (0) = 64)) ∨ ((k) = k ∧ 3 ≤ (10) ∧ (10) ≤ 6 ∧ (0) = 12)) ∨ ((k) = k ∧ (10) = 1 ∧ (0) < 8)) ∨ ((k) = k ∧ (10) = 2 ∧ (0) < 64)) ∨ ((k) = k ∧ 3 ≤ (10) ∧ (10) ≤ 6 ∧ (0) < n)) ∨ ((k) = k ∧ (10) = 3 ∧ (0) = n)) ∨ ((k) = k ∧ 3 ≤ (10) ∧ (10) ≤ 6 ∧ (0) = n)); omega) (r := (k, 3, n)) (show ch_rt k 10 0 n = some (k, 3, n) from if_pos hn1) (NP_v np (Or.inl (Or.inr ⟨rfl, rfl, rfl⟩))) e_mn
              replace e_b0 : (s_rf S19 k 10 0 n mn).1 k 0 0 = b0 := e_b0
              replace e_q10 : (s_rf S19 k 10 0 n mn).1 k 10 0 = q10 := e_q10
              replace e_mn : (s_rf S19 k 10 0 n mn).1 k 3 n = mn := e_mn
              generalize s_rf S19 k 10 0 n mn = S20 at np e_b0 e_q10 e_mn ⊢
              refine ca_iinc h dX3_init_160 rfl ik_1 rfl ?_
              refine ca_goto (tgt := 138) h dX3_init_163 (by decide) ?_
              replace np := NP_w (D' := (fun a b c => (((((((a = k ∧ (b = 0 ∨ (7 ≤ b ∧ b ≤ 10)) ∧ c = 0) ∨ (a = k ∧ b = 1 ∧ c = 8)) ∨ (a = k ∧ b = 2 ∧ c = 64)) ∨ (a = k ∧ 3 ≤ b ∧ b ≤ 6 ∧ c = 12)) ∨ (a = k ∧ b = 1 ∧ c < 8)) ∨ (a = k ∧ b = 2 ∧ c < 64)) ∨ (a = k ∧ 3 ≤ b ∧ b ≤ 6 ∧ c < n + 1)))) (Z' := (fun a b c => (((((((a = k ∧ (b = 0 ∨ (7 ≤ b ∧ b ≤ 10)) ∧ c = 0) ∨ (a = k ∧ b = 1 ∧ c = 8)) ∨ (a = k ∧ b = 2 ∧ c = 64)) ∨ (a = k ∧ 3 ≤ b ∧ b ≤ 6 ∧ c = 12)) ∨ (a = k ∧ b = 1 ∧ c < 8)) ∨ (a = k ∧ b = 2 ∧ c < 64)) ∨ (a = k ∧ 3 ≤ b ∧ b ≤ 6 ∧ c < n + 1)))) (R' := (fun a b c j => ((((((a = k ∧ b = 0 ∧ c = 0) ∨ (a = k ∧ b = 3 ∧ c = 12)) ∨ (a = k ∧ b = 8 ∧ c = 0)) ∨ (a = k ∧ b = 9 ∧ c = 0)) ∨ (a = k ∧ b = 10 ∧ c = 0 ∧ j < n + 1)) ∨ (a = k ∧ b = 3 ∧ c < n + 1)))) np (by intro a b c; constructor; (· (intro z; rcases z with ((((((z | z) | z) | z) | z) | z) | z); (· (exact (Or.inl (Or.inl (Or.inl (Or.inl (Or.inl (Or.inl (Or.inl (Or.inl z)))))))))); (· (exact (Or.inl (Or.inl (Or.inl (Or.inl (Or.inl (Or.inl (Or.inl (Or.inr z)))))))))); (· (exact (Or.inl (Or.inl (Or.inl (Or.inl (Or.inl (Or.inl (Or.inr z))))))))); (· (exact (Or.inl (Or.inl (Or.inl (Or.inl (Or.inl (Or.inr z)))))))); (· (exact (Or.inl (Or.inl (Or.inl (Or.inl (Or.inr z))))))); (· (exact (Or.inl (Or.inl (Or.inl (Or.inr z)))))); (· (rcases (show (a = k ∧ 3 ≤ b ∧ b ≤ 6 ∧ c = 12) ∨ (a = k ∧ 3 ≤ b ∧ b ≤ 6 ∧ c < n) ∨ (a = k ∧ b = 3 ∧ c = n) ∨ (a = k ∧ 3 ≤ b ∧ b ≤ 6 ∧ c = n) by omega) with z | z | z | z; (· exact (Or.inl (Or.inl (Or.inl (Or.inl (Or.inl (Or.inr z))))))); (· exact (Or.inl (Or.inl (Or.inr z)))); (· exact (Or.inl (Or.inr z))); (· exact (Or.inr z)))))); (· (intro z; rcases z with ((((((((z | z) | z) | z) | z) | z) | z) | z) | z); (· (exact (Or.inl (Or.inl (Or.inl (Or.inl (Or.inl (Or.inl z)))))))); (· (exact (Or.inl (Or.inl (Or.inl (Or.inl (Or.inl (Or.inr z)))))))); (· (exact (Or.inl (Or.inl (Or.inl (Or.inl (Or.inr z))))))); (· (exact (Or.inl (Or.inl (Or.inl (Or.inr z)))))); (· (exact (Or.inl (Or.inl (Or.inr z))))); (· (exact (Or.inl (Or.inr z)))); (· (rcases (show (a = k ∧ 3 ≤ b ∧ b ≤ 6 ∧ c = 12) ∨ (a = k ∧ 3 ≤ b ∧ b ≤ 6 ∧ c < n + 1) by omega) with z | z; (· exact (Or.inl (Or.inl (Or.inl (Or.inr z))))); (· exact (Or.inr z)))); (· (rcases (show (a = k ∧ 3 ≤ b ∧ b ≤ 6 ∧ c = 12) ∨ (a = k ∧ 3 ≤ b ∧ b ≤ 6 ∧ c < n + 1) by omega) with z | z; (· exact (Or.inl (Or.inl (Or.inl (Or.inr z))))); (· exact (Or.inr z)))); (· (rcases (show (a = k ∧ 3 ≤ b ∧ b ≤ 6 ∧ c = 12) ∨ (a = k ∧ 3 ≤ b ∧ b ≤ 6 ∧ c < n + 1) by omega) with z | z; (· exact (Or.inl (Or.inl (Or.inl (Or.inr z))))); (· exact (Or.inr z))))))) (by intro a b c _ z; rcases z with ((((((z | z) | z) | z) | z) | z) | z); (· (exact (Or.inl (Or.inl (Or.inl (Or.inl (Or.inl (Or.inl (Or.inl z))))))))); (· (exact (Or.inl (Or.inl (Or.inl (Or.inl (Or.inl (Or.inl (Or.inr z))))))))); (· (exact (Or.inl (Or.inl (Or.inl (Or.inl (Or.inl (Or.inr z)))))))); (· (exact (Or.inl (Or.inl (Or.inl (Or.inl (Or.inr z))))))); (· (exact (Or.inl (Or.inl (Or.inl (Or.inr z)))))); (· (exact (Or.inl (Or.inl (Or.inr z))))); (· (rcases (show (a = k ∧ 3 ≤ b ∧ b ≤ 6 ∧ c = 12) ∨ (a = k ∧ 3 ≤ b ∧ b ≤ 6 ∧ c < n) ∨ (a = k ∧ 3 ≤ b ∧ b ≤ 6 ∧ c = n) by omega) with z | z | z; (· exact (Or.inl (Or.inl (Or.inl (Or.inl (Or.inr z)))))); (· exact (Or.inl (Or.inr z))); (· exact (Or.inr z))))) (by intro a b c j r _ z e; rcases z with (((((z | z) | z) | z) | z) | z); (· (exact (Or.inl (Or.inl (Or.inl (Or.inl (Or.inl (Or.inl (Or.inl z))))))))); (· (exact (Or.inl (Or.inl (Or.inl (Or.inl (Or.inl (Or.inl (Or.inr z))))))))); (· (exact (Or.inl (Or.inl (Or.inl (Or.inl (Or.inl (Or.inr z)))))))); (· (exact (Or.inl (Or.inl (Or.inl (Or.inl (Or.inr z))))))); (· (rcases (show (a = k ∧ b = 10 ∧ c = 0 ∧ j < n) ∨ (a = k ∧ b = 10 ∧ c = 0 ∧ j = n) by first | omega | (have ej := ch_rt_j e; omega)) with z | z; (· exact (Or.inl (Or.inl (Or.inl (Or.inr z))))); (· exact (Or.inr z)))); (· (rcases (show (a = k ∧ b = 3 ∧ c = 12) ∨ (a = k ∧ b = 3 ∧ c < n) ∨ (a = k ∧ 3 ≤ b ∧ b ≤ 6 ∧ c = n) by first | omega | (have ej := ch_rt_j e; omega)) with z | z | z; (· exact (Or.inl (Or.inl (Or.inl (Or.inl (Or.inl (Or.inl (Or.inr z)))))))); (· exact (Or.inl (Or.inl (Or.inr z)))); (· exact (Or.inl (Or.inr z))))))
              refine ca_room (kc' := 82 + 4 * (n + 1)) (ks' := 526 + 93 * (n + 1)) (by omega) (by omega) ?_
              refine ca_pick [1, 0] rfl ?_
              exact ih_138 (n + 1) (by omega) _ (nI_1 n) _ _ np e_b0
          replace np := NP_w (D' := (fun a b c => (((((((a = k ∧ (b = 0 ∨ (7 ≤ b ∧ b ≤ 10)) ∧ c = 0) ∨ (a = k ∧ b = 1 ∧ c = 8)) ∨ (a = k ∧ b = 2 ∧ c = 64)) ∨ (a = k ∧ 3 ≤ b ∧ b ≤ 6 ∧ c = 12)) ∨ (a = k ∧ b = 1 ∧ c < 8)) ∨ (a = k ∧ b = 2 ∧ c < 64)) ∨ (a = k ∧ 3 ≤ b ∧ b ≤ 6 ∧ c < 0)))) (Z' := (fun a b c => (((((((a = k ∧ (b = 0 ∨ (7 ≤ b ∧ b ≤ 10)) ∧ c = 0) ∨ (a = k ∧ b = 1 ∧ c = 8)) ∨ (a = k ∧ b = 2 ∧ c = 64)) ∨ (a = k ∧ 3 ≤ b ∧ b ≤ 6 ∧ c = 12)) ∨ (a = k ∧ b = 1 ∧ c < 8)) ∨ (a = k ∧ b = 2 ∧ c < 64)) ∨ (a = k ∧ 3 ≤ b ∧ b ≤ 6 ∧ c < 0)))) (R' := (fun a b c j => ((((((a = k ∧ b = 0 ∧ c = 0) ∨ (a = k ∧ b = 3 ∧ c = 12)) ∨ (a = k ∧ b = 8 ∧ c = 0)) ∨ (a = k ∧ b = 9 ∧ c = 0)) ∨ (a = k ∧ b = 10 ∧ c = 0 ∧ j < 0)) ∨ (a = k ∧ b = 3 ∧ c < 0)))) np (by intro a b c; constructor; (· (intro z; rcases z with ((((((z | z) | z) | z) | z) | z) | z); (· (exact (Or.inl (Or.inl (Or.inl (Or.inl (Or.inl z))))))); (· (exact (Or.inl (Or.inl (Or.inl (Or.inl (Or.inr z))))))); (· (exact (Or.inl (Or.inl (Or.inl (Or.inr z)))))); (· (exact (Or.inl (Or.inl (Or.inr z))))); (· (exact (Or.inl (Or.inr z)))); (· (exact (Or.inr z))); (· (exfalso; omega)))); (· (intro z; rcases z with (((((z | z) | z) | z) | z) | z); (· (exact (Or.inl (Or.inl (Or.inl (Or.inl (Or.inl (Or.inl z)))))))); (· (exact (Or.inl (Or.inl (Or.inl (Or.inl (Or.inl (Or.inr z)))))))); (· (exact (Or.inl (Or.inl (Or.inl (Or.inl (Or.inr z))))))); (· (exact (Or.inl (Or.inl (Or.inl (Or.inr z)))))); (· (exact (Or.inl (Or.inl (Or.inr z))))); (· (exact (Or.inl (Or.inr z))))))) (by intro a b c _ z; rcases z with ((((((z | z) | z) | z) | z) | z) | z); (· (exact (Or.inl (Or.inl (Or.inl (Or.inl (Or.inl z))))))); (· (exact (Or.inl (Or.inl (Or.inl (Or.inl (Or.inr z))))))); (· (exact (Or.inl (Or.inl (Or.inl (Or.inr z)))))); (· (exact (Or.inl (Or.inl (Or.inr z))))); (· (exact (Or.inl (Or.inr z)))); (· (exact (Or.inr z))); (· (exfalso; omega))) (by intro a b c j r _ z e; rcases z with (((((z | z) | z) | z) | z) | z); (· (exact (Or.inl (Or.inl (Or.inl z))))); (· (exact (Or.inl (Or.inl (Or.inr z))))); (· (exact (Or.inl (Or.inr z)))); (· (replace z : (a = k ∧ b = 9 ∧ c = 0 ∧ j < 64) := (by first | omega | (have ej := ch_rt_j e; omega)); exact (Or.inr z))); (· (exfalso; omega)); (· (exfalso; omega)))
          refine ca_room (kc' := 82 + 4 * 0) (ks' := 526 + 93 * 0) (by omega) (by omega) ?_
          refine ca_pick [1, 0] rfl ?_
          exact loop_138 12 0 rfl _ rfl _ _ np e_b0
        | succ jj ih_108 =>
          intro n hn x ex S9 μ9 np e_b0
          have hn1 : n < 64 := by omega
          subst ex
          refine ca_iload_n h dX3_init_108 rfl ?_
          refine ca_aload_nr h dX3_init_109 rfl ?_
          refine ca_tR e_b0 ?_
          refine gr_X3_19 h (NP_v np (by show (((((((k) = k ∧ ((0) = 0 ∨ (7 ≤ (0) ∧ (0) ≤ 10)) ∧ (0) = 0) ∨ ((k) = k ∧ (0) = 1 ∧ (0) = 8)) ∨ ((k) = k ∧ (0) = 2 ∧ (0) = 64)) ∨ ((k) = k ∧ 3 ≤ (0) ∧ (0) ≤ 6 ∧ (0) = 12)) ∨ ((k) = k ∧ (0) = 1 ∧ (0) < 8)) ∨ ((k) = k ∧ (0) = 2 ∧ (0) < n)); omega)) (np.2.2.2.2 k 0 0 11 (k, 9, 0) (by show (((((((k) = k ∧ ((0) = 0 ∨ (7 ≤ (0) ∧ (0) ≤ 10)) ∧ (0) = 0) ∨ ((k) = k ∧ (0) = 1 ∧ (0) = 8)) ∨ ((k) = k ∧ (0) = 2 ∧ (0) = 64)) ∨ ((k) = k ∧ 3 ≤ (0) ∧ (0) ≤ 6 ∧ (0) = 12)) ∨ ((k) = k ∧ (0) = 1 ∧ (0) < 8)) ∨ ((k) = k ∧ (0) = 2 ∧ (0) < n)); omega) (by show (((((k) = k ∧ (0) = 0 ∧ (0) = 0) ∨ ((k) = k ∧ (0) = 3 ∧ (0) = 12)) ∨ ((k) = k ∧ (0) = 8 ∧ (0) = 0)) ∨ ((k) = k ∧ (0) = 9 ∧ (0) = 0 ∧ (11) < n)); omega) rfl).2 dX3_init_110 ?_
          show ch_W _ _ _ _ _ _ _ _ _ (.ref (S9.1 k 9 0) :: _)
          obtain ⟨q9, e_q9⟩ : ∃ z, S9.1 k 9 0 = z := ⟨_, rfl⟩
          rw [e_q9]
          refine ca_tR e_q9 ?_
          refine ca_alenq h rfl (by decide) (NP_v np (by show (((((((k) = k ∧ ((9) = 0 ∨ (7 ≤ (9) ∧ (9) ≤ 10)) ∧ (0) = 0) ∨ ((k) = k ∧ (9) = 1 ∧ (0) = 8)) ∨ ((k) = k ∧ (9) = 2 ∧ (0) = 64)) ∨ ((k) = k ∧ 3 ≤ (9) ∧ (9) ≤ 6 ∧ (0) = 12)) ∨ ((k) = k ∧ (9) = 1 ∧ (0) < 8)) ∨ ((k) = k ∧ (9) = 2 ∧ (0) < n)); omega)) (v := 64) rfl dX3_init_113 ?_
          refine ca_icmp_ge (tgt := 136) h dX3_init_114 (by decide) (fun c_114 => ?_) (fun c_114 => ?_)
          · exact absurd (nI_lt hn1 (by decide)) c_114
          refine ca_aload_nr h dX3_init_117 rfl ?_
          refine ca_tR e_b0 ?_
          refine gr_X3_19 h (NP_v np (by show (((((((k) = k ∧ ((0) = 0 ∨ (7 ≤ (0) ∧ (0) ≤ 10)) ∧ (0) = 0) ∨ ((k) = k ∧ (0) = 1 ∧ (0) = 8)) ∨ ((k) = k ∧ (0) = 2 ∧ (0) = 64)) ∨ ((k) = k ∧ 3 ≤ (0) ∧ (0) ≤ 6 ∧ (0) = 12)) ∨ ((k) = k ∧ (0) = 1 ∧ (0) < 8)) ∨ ((k) = k ∧ (0) = 2 ∧ (0) < n)); omega)) (np.2.2.2.2 k 0 0 11 (k, 9, 0) (by show (((((((k) = k ∧ ((0) = 0 ∨ (7 ≤ (0) ∧ (0) ≤ 10)) ∧ (0) = 0) ∨ ((k) = k ∧ (0) = 1 ∧ (0) = 8)) ∨ ((k) = k ∧ (0) = 2 ∧ (0) = 64)) ∨ ((k) = k ∧ 3 ≤ (0) ∧ (0) ≤ 6 ∧ (0) = 12)) ∨ ((k) = k ∧ (0) = 1 ∧ (0) < 8)) ∨ ((k) = k ∧ (0) = 2 ∧ (0) < n)); omega) (by show (((((k) = k ∧ (0) = 0 ∧ (0) = 0) ∨ ((k) = k ∧ (0) = 3 ∧ (0) = 12)) ∨ ((k) = k ∧ (0) = 8 ∧ (0) = 0)) ∨ ((k) = k ∧ (0) = 9 ∧ (0) = 0 ∧ (11) < n)); omega) rfl).2 dX3_init_118 ?_
          show ch_W _ _ _ _ _ _ _ _ _ (.ref (S9.1 k 9 0) :: _)
          rw [e_q9]
          refine ca_iload_n h dX3_init_121 rfl ?_
          refine ca_newO h (ci := 7) k 2 n hG (hb (NP_v np (by omega))) rfl rfl li_X7 tyX7 tyX7_ok dvX7 rfl kw_76 kw_129 kw_5 ⟨by omega, by omega⟩ dX3_init_122 ?_
          intro rn
          obtain ⟨np', mv⟩ := NP_newO (q := rn) np (hf k 2 n (by (first | omega | (unfold PN0; omega) | simp)) (by omega)) (by show ¬ (((((((k) = k ∧ ((2) = 0 ∨ (7 ≤ (2) ∧ (2) ≤ 10)) ∧ (n) = 0) ∨ ((k) = k ∧ (2) = 1 ∧ (n) = 8)) ∨ ((k) = k ∧ (2) = 2 ∧ (n) = 64)) ∨ ((k) = k ∧ 3 ≤ (2) ∧ (2) ≤ 6 ∧ (n) = 12)) ∨ ((k) = k ∧ (2) = 1 ∧ (n) < 8)) ∨ ((k) = k ∧ (2) = 2 ∧ (n) < n)); omega) (by show ¬ (((((((k) = k ∧ ((2) = 0 ∨ (7 ≤ (2) ∧ (2) ≤ 10)) ∧ (n) = 0) ∨ ((k) = k ∧ (2) = 1 ∧ (n) = 8)) ∨ ((k) = k ∧ (2) = 2 ∧ (n) = 64)) ∨ ((k) = k ∧ 3 ≤ (2) ∧ (2) ≤ 6 ∧ (n) = 12)) ∨ ((k) = k ∧ (2) = 1 ∧ (n) < 8)) ∨ ((k) = k ∧ (2) = 2 ∧ (n) < n)); omega) (by intro j; show ¬ (((((k) = k ∧ (2) = 0 ∧ (n) = 0) ∨ ((k) = k ∧ (2) = 3 ∧ (n) = 12)) ∨ ((k) = k ∧ (2) = 8 ∧ (n) = 0)) ∨ ((k) = k ∧ (2) = 9 ∧ (n) = 0 ∧ (j) < n)); omega)
          replace e_b0 := mv k 0 0 _ (NP_v np (by show (((((((k) = k ∧ ((0) = 0 ∨ (7 ≤ (0) ∧ (0) ≤ 10)) ∧ (0) = 0) ∨ ((k) = k ∧ (0) = 1 ∧ (0) = 8)) ∨ ((k) = k ∧ (0) = 2 ∧ (0) = 64)) ∨ ((k) = k ∧ 3 ≤ (0) ∧ (0) ≤ 6 ∧ (0) = 12)) ∨ ((k) = k ∧ (0) = 1 ∧ (0) < 8)) ∨ ((k) = k ∧ (0) = 2 ∧ (0) < n)); omega)) e_b0
          replace e_q9 := mv k 9 0 _ (NP_v np (by show (((((((k) = k ∧ ((9) = 0 ∨ (7 ≤ (9) ∧ (9) ≤ 10)) ∧ (0) = 0) ∨ ((k) = k ∧ (9) = 1 ∧ (0) = 8)) ∨ ((k) = k ∧ (9) = 2 ∧ (0) = 64)) ∨ ((k) = k ∧ 3 ≤ (9) ∧ (9) ≤ 6 ∧ (0) = 12)) ∨ ((k) = k ∧ (9) = 1 ∧ (0) < 8)) ∨ ((k) = k ∧ (9) = 2 ∧ (0) < n)); omega)) e_q9
          have e_rn := s_ad_s S9 k 2 n rn
          clear np mv
          generalize s_ad S9 k 2 n rn = S21 at np' e_b0 e_q9 e_rn ⊢
          generalize hz_ : ch_z μ9 k 2 n = μ21 at np'  ⊢
          have z_rn : μ21 k 2 n = fun _ => 0 := by rw [← hz_]; exact ch_z_0 _ _ _ _
          clear hz_
          have np := np'
          clear np'
          refine ca_dup h dX3_init_125 rfl ?_
          refine ca_tR e_rn ?_
          refine ca_ctN h hG (List.mem_of_getElem? (i := 2) rfl) kw_131 kw_5 kw_132 ⟨by decide, by decide, by decide +kernel⟩ rfl (c_X7_init  (NP_v np (Or.inr ⟨rfl, rfl, rfl⟩)) (z_rn)) rfl rfl ⟨by omega, by omega⟩ rfl dX3_init_126 ?_
          intro S22 μ22 hp
          obtain ⟨np', mv⟩ := NP_callA np hp
          replace e_b0 := mv k 0 0 _ (NP_v np (by show ((((((((k) = k ∧ ((0) = 0 ∨ (7 ≤ (0) ∧ (0) ≤ 10)) ∧ (0) = 0) ∨ ((k) = k ∧ (0) = 1 ∧ (0) = 8)) ∨ ((k) = k ∧ (0) = 2 ∧ (0) = 64)) ∨ ((k) = k ∧ 3 ≤ (0) ∧ (0) ≤ 6 ∧ (0) = 12)) ∨ ((k) = k ∧ (0) = 1 ∧ (0) < 8)) ∨ ((k) = k ∧ (0) = 2 ∧ (0) < n)) ∨ ((k) = k ∧ (0) = 2 ∧ (0) = n)); omega)) e_b0
          replace e_q9 := mv k 9 0 _ (NP_v np (by show ((((((((k) = k ∧ ((9) = 0 ∨ (7 ≤ (9) ∧ (9) ≤ 10)) ∧ (0) = 0) ∨ ((k) = k ∧ (9) = 1 ∧ (0) = 8)) ∨ ((k) = k ∧ (9) = 2 ∧ (0) = 64)) ∨ ((k) = k ∧ 3 ≤ (9) ∧ (9) ≤ 6 ∧ (0) = 12)) ∨ ((k) = k ∧ (9) = 1 ∧ (0) < 8)) ∨ ((k) = k ∧ (9) = 2 ∧ (0) < n)) ∨ ((k) = k ∧ (9) = 2 ∧ (0) = n)); omega)) e_q9
          replace e_rn := mv k 2 n _ (NP_v np (Or.inr ⟨rfl, rfl, rfl⟩)) e_rn
          clear np mv hp
          have np := np'
          clear np'
          refine ca_asto h (t := 2) (n := 64) (ci := 7) rfl (by decide) rfl (NP_v np (by show (((((((((k) = k ∧ ((9) = 0 ∨ (7 ≤ (9) ∧ (9) ≤ 10)) ∧ (0) = 0) ∨ ((k) = k ∧ (9) = 1 ∧ (0) = 8)) ∨ ((k) = k ∧ (9) = 2 ∧ (0) = 64)) ∨ ((k) = k ∧ 3 ≤ (9) ∧ (9) ≤ 6 ∧ (0) = 12)) ∨ ((k) = k ∧ (9) = 1 ∧ (0) < 8)) ∨ ((k) = k ∧ (9) = 2 ∧ (0) < n)) ∨ ((k) = k ∧ (9) = 2 ∧ (0) = n)) ∨ ((k) = k ∧ (9) = 2 ∧ (0) = n)); omega)) (NP_v np (Or.inl (Or.inr ⟨rfl, rfl, rfl⟩))) rfl rfl e_q9 e_rn (vp_in_nI hn1 (by decide)) dX3_init_129 ?_
          rw [nI_clamp (show n < 2 ^ 31 by omega)]
          replace np := NP_rfA np (j := n) (by show (((((((((k) = k ∧ ((9) = 0 ∨ (7 ≤ (9) ∧ (9) ≤ 10)) ∧ (0) = 0) ∨ ((k) = k ∧ (9) = 1 ∧ (0) = 8)) ∨ ((k) = k ∧ (9) = 2 ∧ (0) = 64)) ∨ ((k) = k ∧ 3 ≤ (9) ∧ (9) ≤ 6 ∧ (0) = 12)) ∨ ((k) = k ∧ (9) = 1 ∧ (0) < 8)) ∨ ((k) = k ∧ (9) = 2 ∧ (0) < n)) ∨ ((k) = k ∧ (9) = 2 ∧ (0) = n)) ∨ ((k) = k ∧ (9) = 2 ∧ (0) = n)); omega) (r := (k, 2, n)) (show ch_rt k 9 0 n = some (k, 2, n) from if_pos hn1) (NP_v np (Or.inl (Or.inr ⟨rfl, rfl, rfl⟩))) e_rn
          replace e_b0 : (s_rf S22 k 9 0 n rn).1 k 0 0 = b0 := e_b0
          replace e_q9 : (s_rf S22 k 9 0 n rn).1 k 9 0 = q9 := e_q9
          replace e_rn : (s_rf S22 k 9 0 n rn).1 k 2 n = rn := e_rn
          generalize s_rf S22 k 9 0 n rn = S23 at np e_b0 e_q9 e_rn ⊢
          refine ca_iinc h dX3_init_130 rfl ik_1 rfl ?_
          refine ca_goto (tgt := 108) h dX3_init_133 (by decide) ?_
          replace np := NP_w (D' := (fun a b c => ((((((a = k ∧ (b = 0 ∨ (7 ≤ b ∧ b ≤ 10)) ∧ c = 0) ∨ (a = k ∧ b = 1 ∧ c = 8)) ∨ (a = k ∧ b = 2 ∧ c = 64)) ∨ (a = k ∧ 3 ≤ b ∧ b ≤ 6 ∧ c = 12)) ∨ (a = k ∧ b = 1 ∧ c < 8)) ∨ (a = k ∧ b = 2 ∧ c < n + 1)))) (Z' := (fun a b c => ((((((a = k ∧ (b = 0 ∨ (7 ≤ b ∧ b ≤ 10)) ∧ c = 0) ∨ (a = k ∧ b = 1 ∧ c = 8)) ∨ (a = k ∧ b = 2 ∧ c = 64)) ∨ (a = k ∧ 3 ≤ b ∧ b ≤ 6 ∧ c = 12)) ∨ (a = k ∧ b = 1 ∧ c < 8)) ∨ (a = k ∧ b = 2 ∧ c < n + 1)))) (R' := (fun a b c j => ((((a = k ∧ b = 0 ∧ c = 0) ∨ (a = k ∧ b = 3 ∧ c = 12)) ∨ (a = k ∧ b = 8 ∧ c = 0)) ∨ (a = k ∧ b = 9 ∧ c = 0 ∧ j < n + 1)))) np (by intro a b c; constructor; (· (intro z; rcases z with (((((z | z) | z) | z) | z) | z); (· (exact (Or.inl (Or.inl (Or.inl (Or.inl (Or.inl (Or.inl (Or.inl z))))))))); (· (exact (Or.inl (Or.inl (Or.inl (Or.inl (Or.inl (Or.inl (Or.inr z))))))))); (· (exact (Or.inl (Or.inl (Or.inl (Or.inl (Or.inl (Or.inr z)))))))); (· (exact (Or.inl (Or.inl (Or.inl (Or.inl (Or.inr z))))))); (· (exact (Or.inl (Or.inl (Or.inl (Or.inr z)))))); (· (rcases (show (a = k ∧ b = 2 ∧ c = 64) ∨ (a = k ∧ b = 2 ∧ c < n) ∨ (a = k ∧ b = 2 ∧ c = n) by omega) with z | z | z; (· exact (Or.inl (Or.inl (Or.inl (Or.inl (Or.inl (Or.inr z))))))); (· exact (Or.inl (Or.inl (Or.inr z)))); (· exact (Or.inl (Or.inr z))))))); (· (intro z; rcases z with (((((((z | z) | z) | z) | z) | z) | z) | z); (· (exact (Or.inl (Or.inl (Or.inl (Or.inl (Or.inl z))))))); (· (exact (Or.inl (Or.inl (Or.inl (Or.inl (Or.inr z))))))); (· (exact (Or.inl (Or.inl (Or.inl (Or.inr z)))))); (· (exact (Or.inl (Or.inl (Or.inr z))))); (· (exact (Or.inl (Or.inr z)))); (· (rcases (show (a = k ∧ b = 2 ∧ c = 64) ∨ (a = k ∧ b = 2 ∧ c < n + 1) by omega) with z | z; (· exact (Or.inl (Or.inl (Or.inl (Or.inr z))))); (· exact (Or.inr z)))); (· (rcases (show (a = k ∧ b = 2 ∧ c = 64) ∨ (a = k ∧ b = 2 ∧ c < n + 1) by omega) with z | z; (· exact (Or.inl (Or.inl (Or.inl (Or.inr z))))); (· exact (Or.inr z)))); (· (rcases (show (a = k ∧ b = 2 ∧ c = 64) ∨ (a = k ∧ b = 2 ∧ c < n + 1) by omega) with z | z; (· exact (Or.inl (Or.inl (Or.inl (Or.inr z))))); (· exact (Or.inr z))))))) (by intro a b c _ z; rcases z with (((((z | z) | z) | z) | z) | z); (· (exact (Or.inl (Or.inl (Or.inl (Or.inl (Or.inl (Or.inl z)))))))); (· (exact (Or.inl (Or.inl (Or.inl (Or.inl (Or.inl (Or.inr z)))))))); (· (exact (Or.inl (Or.inl (Or.inl (Or.inl (Or.inr z))))))); (· (exact (Or.inl (Or.inl (Or.inl (Or.inr z)))))); (· (exact (Or.inl (Or.inl (Or.inr z))))); (· (rcases (show (a = k ∧ b = 2 ∧ c = 64) ∨ (a = k ∧ b = 2 ∧ c < n) ∨ (a = k ∧ b = 2 ∧ c = n) by omega) with z | z | z; (· exact (Or.inl (Or.inl (Or.inl (Or.inl (Or.inr z)))))); (· exact (Or.inl (Or.inr z))); (· exact (Or.inr z))))) (by intro a b c j r _ z e; rcases z with (((z | z) | z) | z); (· (exact (Or.inl (Or.inl (Or.inl (Or.inl (Or.inl z))))))); (· (exact (Or.inl (Or.inl (Or.inl (Or.inl (Or.inr z))))))); (· (exact (Or.inl (Or.inl (Or.inl (Or.inr z)))))); (· (rcases (show (a = k ∧ b = 9 ∧ c = 0 ∧ j < n) ∨ (a = k ∧ b = 9 ∧ c = 0 ∧ j = n) by first | omega | (have ej := ch_rt_j e; omega)) with z | z; (· exact (Or.inl (Or.inl (Or.inr z)))); (· exact (Or.inr z)))))
          refine ca_room (kc' := 18 + 1 * (n + 1)) (ks' := 270 + 4 * (n + 1)) (by omega) (by omega) ?_
          refine ca_pick [1, 0] rfl ?_
          exact ih_108 (n + 1) (by omega) _ (nI_1 n) _ _ np e_b0
      replace np := NP_w (D' := (fun a b c => ((((((a = k ∧ (b = 0 ∨ (7 ≤ b ∧ b ≤ 10)) ∧ c = 0) ∨ (a = k ∧ b = 1 ∧ c = 8)) ∨ (a = k ∧ b = 2 ∧ c = 64)) ∨ (a = k ∧ 3 ≤ b ∧ b ≤ 6 ∧ c = 12)) ∨ (a = k ∧ b = 1 ∧ c < 8)) ∨ (a = k ∧ b = 2 ∧ c < 0)))) (Z' := (fun a b c => ((((((a = k ∧ (b = 0 ∨ (7 ≤ b ∧ b ≤ 10)) ∧ c = 0) ∨ (a = k ∧ b = 1 ∧ c = 8)) ∨ (a = k ∧ b = 2 ∧ c = 64)) ∨ (a = k ∧ 3 ≤ b ∧ b ≤ 6 ∧ c = 12)) ∨ (a = k ∧ b = 1 ∧ c < 8)) ∨ (a = k ∧ b = 2 ∧ c < 0)))) (R' := (fun a b c j => ((((a = k ∧ b = 0 ∧ c = 0) ∨ (a = k ∧ b = 3 ∧ c = 12)) ∨ (a = k ∧ b = 8 ∧ c = 0)) ∨ (a = k ∧ b = 9 ∧ c = 0 ∧ j < 0)))) np (by intro a b c; constructor; (· (intro z; rcases z with (((((z | z) | z) | z) | z) | z); (· (exact (Or.inl (Or.inl (Or.inl (Or.inl z)))))); (· (exact (Or.inl (Or.inl (Or.inl (Or.inr z)))))); (· (exact (Or.inl (Or.inl (Or.inr z))))); (· (exact (Or.inl (Or.inr z)))); (· (exact (Or.inr z))); (· (exfalso; omega)))); (· (intro z; rcases z with ((((z | z) | z) | z) | z); (· (exact (Or.inl (Or.inl (Or.inl (Or.inl (Or.inl z))))))); (· (exact (Or.inl (Or.inl (Or.inl (Or.inl (Or.inr z))))))); (· (exact (Or.inl (Or.inl (Or.inl (Or.inr z)))))); (· (exact (Or.inl (Or.inl (Or.inr z))))); (· (exact (Or.inl (Or.inr z))))))) (by intro a b c _ z; rcases z with (((((z | z) | z) | z) | z) | z); (· (exact (Or.inl (Or.inl (Or.inl (Or.inl z)))))); (· (exact (Or.inl (Or.inl (Or.inl (Or.inr z)))))); (· (exact (Or.inl (Or.inl (Or.inr z))))); (· (exact (Or.inl (Or.inr z)))); (· (exact (Or.inr z))); (· (exfalso; omega))) (by intro a b c j r _ z e; rcases z with (((z | z) | z) | z); (· (exact (Or.inl (Or.inl z)))); (· (exact (Or.inl (Or.inr z)))); (· (replace z : (a = k ∧ b = 8 ∧ c = 0 ∧ j < 8) := (by first | omega | (have ej := ch_rt_j e; omega)); exact (Or.inr z))); (· (exfalso; omega)))
      refine ca_room (kc' := 18 + 1 * 0) (ks' := 270 + 4 * 0) (by omega) (by omega) ?_
      refine ca_pick [1, 0] rfl ?_
      exact loop_108 64 0 rfl _ rfl _ _ np e_b0
    | succ jj ih_78 =>
      intro n hn x ex S9 μ9 np e_b0
      have hn1 : n < 8 := by omega
      subst ex
      refine ca_iload_n h dX3_init_78 rfl ?_
      refine ca_aload_nr h dX3_init_79 rfl ?_
      refine ca_tR e_b0 ?_
      refine gr_X3_11 h (NP_v np (by show ((((((k) = k ∧ ((0) = 0 ∨ (7 ≤ (0) ∧ (0) ≤ 10)) ∧ (0) = 0) ∨ ((k) = k ∧ (0) = 1 ∧ (0) = 8)) ∨ ((k) = k ∧ (0) = 2 ∧ (0) = 64)) ∨ ((k) = k ∧ 3 ≤ (0) ∧ (0) ≤ 6 ∧ (0) = 12)) ∨ ((k) = k ∧ (0) = 1 ∧ (0) < n)); omega)) (np.2.2.2.2 k 0 0 10 (k, 8, 0) (by show ((((((k) = k ∧ ((0) = 0 ∨ (7 ≤ (0) ∧ (0) ≤ 10)) ∧ (0) = 0) ∨ ((k) = k ∧ (0) = 1 ∧ (0) = 8)) ∨ ((k) = k ∧ (0) = 2 ∧ (0) = 64)) ∨ ((k) = k ∧ 3 ≤ (0) ∧ (0) ≤ 6 ∧ (0) = 12)) ∨ ((k) = k ∧ (0) = 1 ∧ (0) < n)); omega) (by show ((((k) = k ∧ (0) = 0 ∧ (0) = 0) ∨ ((k) = k ∧ (0) = 3 ∧ (0) = 12)) ∨ ((k) = k ∧ (0) = 8 ∧ (0) = 0 ∧ (10) < n)); omega) rfl).2 dX3_init_80 ?_
      show ch_W _ _ _ _ _ _ _ _ _ (.ref (S9.1 k 8 0) :: _)
      obtain ⟨q8, e_q8⟩ : ∃ z, S9.1 k 8 0 = z := ⟨_, rfl⟩
      rw [e_q8]
      refine ca_tR e_q8 ?_
      refine ca_alenq h rfl (by decide) (NP_v np (by show ((((((k) = k ∧ ((8) = 0 ∨ (7 ≤ (8) ∧ (8) ≤ 10)) ∧ (0) = 0) ∨ ((k) = k ∧ (8) = 1 ∧ (0) = 8)) ∨ ((k) = k ∧ (8) = 2 ∧ (0) = 64)) ∨ ((k) = k ∧ 3 ≤ (8) ∧ (8) ≤ 6 ∧ (0) = 12)) ∨ ((k) = k ∧ (8) = 1 ∧ (0) < n)); omega)) (v := 8) rfl dX3_init_83 ?_
      refine ca_icmp_ge (tgt := 106) h dX3_init_84 (by decide) (fun c_84 => ?_) (fun c_84 => ?_)
      · exact absurd (nI_lt hn1 (by decide)) c_84
      refine ca_aload_nr h dX3_init_87 rfl ?_
      refine ca_tR e_b0 ?_
      refine gr_X3_11 h (NP_v np (by show ((((((k) = k ∧ ((0) = 0 ∨ (7 ≤ (0) ∧ (0) ≤ 10)) ∧ (0) = 0) ∨ ((k) = k ∧ (0) = 1 ∧ (0) = 8)) ∨ ((k) = k ∧ (0) = 2 ∧ (0) = 64)) ∨ ((k) = k ∧ 3 ≤ (0) ∧ (0) ≤ 6 ∧ (0) = 12)) ∨ ((k) = k ∧ (0) = 1 ∧ (0) < n)); omega)) (np.2.2.2.2 k 0 0 10 (k, 8, 0) (by show ((((((k) = k ∧ ((0) = 0 ∨ (7 ≤ (0) ∧ (0) ≤ 10)) ∧ (0) = 0) ∨ ((k) = k ∧ (0) = 1 ∧ (0) = 8)) ∨ ((k) = k ∧ (0) = 2 ∧ (0) = 64)) ∨ ((k) = k ∧ 3 ≤ (0) ∧ (0) ≤ 6 ∧ (0) = 12)) ∨ ((k) = k ∧ (0) = 1 ∧ (0) < n)); omega) (by show ((((k) = k ∧ (0) = 0 ∧ (0) = 0) ∨ ((k) = k ∧ (0) = 3 ∧ (0) = 12)) ∨ ((k) = k ∧ (0) = 8 ∧ (0) = 0 ∧ (10) < n)); omega) rfl).2 dX3_init_88 ?_
      show ch_W _ _ _ _ _ _ _ _ _ (.ref (S9.1 k 8 0) :: _)
      rw [e_q8]
      refine ca_iload_n h dX3_init_91 rfl ?_
      refine ca_newO h (ci := 0) k 1 n hG (hb (NP_v np (by omega))) rfl rfl li_X0 tyX0 tyX0_ok dvX0 rfl kw_74 kw_80 kw_4 ⟨by omega, by omega⟩ dX3_init_92 ?_
      intro Int32.toNatClampNeg
      obtain ⟨np', mv⟩ := NP_newO (q := Int32.toNatClampNeg) np (hf k 1 n (by (first | omega | (unfold PN0; omega) | simp)) (by omega)) (by show ¬ ((((((k) = k ∧ ((1) = 0 ∨ (7 ≤ (1) ∧ (1) ≤ 10)) ∧ (n) = 0) ∨ ((k) = k ∧ (1) = 1 ∧ (n) = 8)) ∨ ((k) = k ∧ (1) = 2 ∧ (n) = 64)) ∨ ((k) = k ∧ 3 ≤ (1) ∧ (1) ≤ 6 ∧ (n) = 12)) ∨ ((k) = k ∧ (1) = 1 ∧ (n) < n)); omega) (by show ¬ ((((((k) = k ∧ ((1) = 0 ∨ (7 ≤ (1) ∧ (1) ≤ 10)) ∧ (n) = 0) ∨ ((k) = k ∧ (1) = 1 ∧ (n) = 8)) ∨ ((k) = k ∧ (1) = 2 ∧ (n) = 64)) ∨ ((k) = k ∧ 3 ≤ (1) ∧ (1) ≤ 6 ∧ (n) = 12)) ∨ ((k) = k ∧ (1) = 1 ∧ (n) < n)); omega) (by intro j; show ¬ ((((k) = k ∧ (1) = 0 ∧ (n) = 0) ∨ ((k) = k ∧ (1) = 3 ∧ (n) = 12)) ∨ ((k) = k ∧ (1) = 8 ∧ (n) = 0 ∧ (j) < n)); omega)
      replace e_b0 := mv k 0 0 _ (NP_v np (by show ((((((k) = k ∧ ((0) = 0 ∨ (7 ≤ (0) ∧ (0) ≤ 10)) ∧ (0) = 0) ∨ ((k) = k ∧ (0) = 1 ∧ (0) = 8)) ∨ ((k) = k ∧ (0) = 2 ∧ (0) = 64)) ∨ ((k) = k ∧ 3 ≤ (0) ∧ (0) ≤ 6 ∧ (0) = 12)) ∨ ((k) = k ∧ (0) = 1 ∧ (0) < n)); omega)) e_b0
      replace e_q8 := mv k 8 0 _ (NP_v np (by show ((((((k) = k ∧ ((8) = 0 ∨ (7 ≤ (8) ∧ (8) ≤ 10)) ∧ (0) = 0) ∨ ((k) = k ∧ (8) = 1 ∧ (0) = 8)) ∨ ((k) = k ∧ (8) = 2 ∧ (0) = 64)) ∨ ((k) = k ∧ 3 ≤ (8) ∧ (8) ≤ 6 ∧ (0) = 12)) ∨ ((k) = k ∧ (8) = 1 ∧ (0) < n)); omega)) e_q8
      have e_cn := s_ad_s S9 k 1 n Int32.toNatClampNeg
      clear np mv
      generalize s_ad S9 k 1 n Int32.toNatClampNeg = S24 at np' e_b0 e_q8 e_cn ⊢
      generalize hz_ : ch_z μ9 k 1 n = μ24 at np'  ⊢
      have z_cn : μ24 k 1 n = fun _ => 0 := by rw [← hz_]; exact ch_z_0 _ _ _ _
      clear hz_
      have np := np'
      clear np'
      refine ca_dup h dX3_init_95 rfl ?_
      refine ca_tR e_cn ?_
      refine ca_ctN h hG (List.mem_of_getElem? (i := 1) rfl) kw_82 kw_4 kw_83 ⟨by decide, by decide, by decide +kernel⟩ rfl (c_X0_init  (NP_v np (Or.inr ⟨rfl, rfl, rfl⟩)) (z_cn)) rfl rfl ⟨by omega, by omega⟩ rfl dX3_init_96 ?_
      intro S25 μ25 hp
      obtain ⟨np', mv⟩ := NP_callA np hp
      replace e_b0 := mv k 0 0 _ (NP_v np (by show (((((((k) = k ∧ ((0) = 0 ∨ (7 ≤ (0) ∧ (0) ≤ 10)) ∧ (0) = 0) ∨ ((k) = k ∧ (0) = 1 ∧ (0) = 8)) ∨ ((k) = k ∧ (0) = 2 ∧ (0) = 64)) ∨ ((k) = k ∧ 3 ≤ (0) ∧ (0) ≤ 6 ∧ (0) = 12)) ∨ ((k) = k ∧ (0) = 1 ∧ (0) < n)) ∨ ((k) = k ∧ (0) = 1 ∧ (0) = n)); omega)) e_b0
      replace e_q8 := mv k 8 0 _ (NP_v np (by show (((((((k) = k ∧ ((8) = 0 ∨ (7 ≤ (8) ∧ (8) ≤ 10)) ∧ (0) = 0) ∨ ((k) = k ∧ (8) = 1 ∧ (0) = 8)) ∨ ((k) = k ∧ (8) = 2 ∧ (0) = 64)) ∨ ((k) = k ∧ 3 ≤ (8) ∧ (8) ≤ 6 ∧ (0) = 12)) ∨ ((k) = k ∧ (8) = 1 ∧ (0) < n)) ∨ ((k) = k ∧ (8) = 1 ∧ (0) = n)); omega)) e_q8
      replace e_cn := mv k 1 n _ (NP_v np (Or.inr ⟨rfl, rfl, rfl⟩)) e_cn
      clear np mv hp
      have np := np'
      clear np'
      refine ca_asto h (t := 1) (n := 8) (ci := 0) rfl (by decide) rfl (NP_v np (by show ((((((((k) = k ∧ ((8) = 0 ∨ (7 ≤ (8) ∧ (8) ≤ 10)) ∧ (0) = 0) ∨ ((k) = k ∧ (8) = 1 ∧ (0) = 8)) ∨ ((k) = k ∧ (8) = 2 ∧ (0) = 64)) ∨ ((k) = k ∧ 3 ≤ (8) ∧ (8) ≤ 6 ∧ (0) = 12)) ∨ ((k) = k ∧ (8) = 1 ∧ (0) < n)) ∨ ((k) = k ∧ (8) = 1 ∧ (0) = n)) ∨ ((k) = k ∧ (8) = 1 ∧ (0) = n)); omega)) (NP_v np (Or.inl (Or.inr ⟨rfl, rfl, rfl⟩))) rfl rfl e_q8 e_cn (vp_in_nI hn1 (by decide)) dX3_init_99 ?_
      rw [nI_clamp (show n < 2 ^ 31 by omega)]
      replace np := NP_rfA np (j := n) (by show ((((((((k) = k ∧ ((8) = 0 ∨ (7 ≤ (8) ∧ (8) ≤ 10)) ∧ (0) = 0) ∨ ((k) = k ∧ (8) = 1 ∧ (0) = 8)) ∨ ((k) = k ∧ (8) = 2 ∧ (0) = 64)) ∨ ((k) = k ∧ 3 ≤ (8) ∧ (8) ≤ 6 ∧ (0) = 12)) ∨ ((k) = k ∧ (8) = 1 ∧ (0) < n)) ∨ ((k) = k ∧ (8) = 1 ∧ (0) = n)) ∨ ((k) = k ∧ (8) = 1 ∧ (0) = n)); omega) (r := (k, 1, n)) (show ch_rt k 8 0 n = some (k, 1, n) from if_pos hn1) (NP_v np (Or.inl (Or.inr ⟨rfl, rfl, rfl⟩))) e_cn
      replace e_b0 : (s_rf S25 k 8 0 n Int32.toNatClampNeg).1 k 0 0 = b0 := e_b0
      replace e_q8 : (s_rf S25 k 8 0 n Int32.toNatClampNeg).1 k 8 0 = q8 := e_q8
      replace e_cn : (s_rf S25 k 8 0 n Int32.toNatClampNeg).1 k 1 n = Int32.toNatClampNeg := e_cn
      generalize s_rf S25 k 8 0 n Int32.toNatClampNeg = S26 at np e_b0 e_q8 e_cn ⊢
      refine ca_iinc h dX3_init_100 rfl ik_1 rfl ?_
      refine ca_goto (tgt := 78) h dX3_init_103 (by decide) ?_
      replace np := NP_w (D' := (fun a b c => (((((a = k ∧ (b = 0 ∨ (7 ≤ b ∧ b ≤ 10)) ∧ c = 0) ∨ (a = k ∧ b = 1 ∧ c = 8)) ∨ (a = k ∧ b = 2 ∧ c = 64)) ∨ (a = k ∧ 3 ≤ b ∧ b ≤ 6 ∧ c = 12)) ∨ (a = k ∧ b = 1 ∧ c < n + 1)))) (Z' := (fun a b c => (((((a = k ∧ (b = 0 ∨ (7 ≤ b ∧ b ≤ 10)) ∧ c = 0) ∨ (a = k ∧ b = 1 ∧ c = 8)) ∨ (a = k ∧ b = 2 ∧ c = 64)) ∨ (a = k ∧ 3 ≤ b ∧ b ≤ 6 ∧ c = 12)) ∨ (a = k ∧ b = 1 ∧ c < n + 1)))) (R' := (fun a b c j => (((a = k ∧ b = 0 ∧ c = 0) ∨ (a = k ∧ b = 3 ∧ c = 12)) ∨ (a = k ∧ b = 8 ∧ c = 0 ∧ j < n + 1)))) np (by intro a b c; constructor; (· (intro z; rcases z with ((((z | z) | z) | z) | z); (· (exact (Or.inl (Or.inl (Or.inl (Or.inl (Or.inl (Or.inl z)))))))); (· (exact (Or.inl (Or.inl (Or.inl (Or.inl (Or.inl (Or.inr z)))))))); (· (exact (Or.inl (Or.inl (Or.inl (Or.inl (Or.inr z))))))); (· (exact (Or.inl (Or.inl (Or.inl (Or.inr z)))))); (· (rcases (show (a = k ∧ b = 1 ∧ c = 8) ∨ (a = k ∧ b = 1 ∧ c < n) ∨ (a = k ∧ b = 1 ∧ c = n) by omega) with z | z | z; (· exact (Or.inl (Or.inl (Or.inl (Or.inl (Or.inl (Or.inr z))))))); (· exact (Or.inl (Or.inl (Or.inr z)))); (· exact (Or.inl (Or.inr z))))))); (· (intro z; rcases z with ((((((z | z) | z) | z) | z) | z) | z); (· (exact (Or.inl (Or.inl (Or.inl (Or.inl z)))))); (· (exact (Or.inl (Or.inl (Or.inl (Or.inr z)))))); (· (exact (Or.inl (Or.inl (Or.inr z))))); (· (exact (Or.inl (Or.inr z)))); (· (rcases (show (a = k ∧ b = 1 ∧ c = 8) ∨ (a = k ∧ b = 1 ∧ c < n + 1) by omega) with z | z; (· exact (Or.inl (Or.inl (Or.inl (Or.inr z))))); (· exact (Or.inr z)))); (· (rcases (show (a = k ∧ b = 1 ∧ c = 8) ∨ (a = k ∧ b = 1 ∧ c < n + 1) by omega) with z | z; (· exact (Or.inl (Or.inl (Or.inl (Or.inr z))))); (· exact (Or.inr z)))); (· (rcases (show (a = k ∧ b = 1 ∧ c = 8) ∨ (a = k ∧ b = 1 ∧ c < n + 1) by omega) with z | z; (· exact (Or.inl (Or.inl (Or.inl (Or.inr z))))); (· exact (Or.inr z))))))) (by intro a b c _ z; rcases z with ((((z | z) | z) | z) | z); (· (exact (Or.inl (Or.inl (Or.inl (Or.inl (Or.inl z))))))); (· (exact (Or.inl (Or.inl (Or.inl (Or.inl (Or.inr z))))))); (· (exact (Or.inl (Or.inl (Or.inl (Or.inr z)))))); (· (exact (Or.inl (Or.inl (Or.inr z))))); (· (rcases (show (a = k ∧ b = 1 ∧ c = 8) ∨ (a = k ∧ b = 1 ∧ c < n) ∨ (a = k ∧ b = 1 ∧ c = n) by omega) with z | z | z; (· exact (Or.inl (Or.inl (Or.inl (Or.inl (Or.inr z)))))); (· exact (Or.inl (Or.inr z))); (· exact (Or.inr z))))) (by intro a b c j r _ z e; rcases z with ((z | z) | z); (· (exact (Or.inl (Or.inl (Or.inl (Or.inl z)))))); (· (exact (Or.inl (Or.inl (Or.inl (Or.inr z)))))); (· (rcases (show (a = k ∧ b = 8 ∧ c = 0 ∧ j < n) ∨ (a = k ∧ b = 8 ∧ c = 0 ∧ j = n) by first | omega | (have ej := ch_rt_j e; omega)) with z | z; (· exact (Or.inl (Or.inl (Or.inr z)))); (· exact (Or.inr z)))))
      refine ca_room (kc' := 10 + 1 * (n + 1)) (ks' := 198 + 9 * (n + 1)) (by omega) (by omega) ?_
      refine ca_pick [1, 0] rfl ?_
      exact ih_78 (n + 1) (by omega) _ (nI_1 n) _ _ np e_b0
  replace np := NP_w (D' := (fun a b c => (((((a = k ∧ (b = 0 ∨ (7 ≤ b ∧ b ≤ 10)) ∧ c = 0) ∨ (a = k ∧ b = 1 ∧ c = 8)) ∨ (a = k ∧ b = 2 ∧ c = 64)) ∨ (a = k ∧ 3 ≤ b ∧ b ≤ 6 ∧ c = 12)) ∨ (a = k ∧ b = 1 ∧ c < 0)))) (Z' := (fun a b c => (((((a = k ∧ (b = 0 ∨ (7 ≤ b ∧ b ≤ 10)) ∧ c = 0) ∨ (a = k ∧ b = 1 ∧ c = 8)) ∨ (a = k ∧ b = 2 ∧ c = 64)) ∨ (a = k ∧ 3 ≤ b ∧ b ≤ 6 ∧ c = 12)) ∨ (a = k ∧ b = 1 ∧ c < 0)))) (R' := (fun a b c j => (((a = k ∧ b = 0 ∧ c = 0) ∨ (a = k ∧ b = 3 ∧ c = 12)) ∨ (a = k ∧ b = 8 ∧ c = 0 ∧ j < 0)))) np (by intro a b c; constructor; (· (intro z; rcases z with ((((z | z) | z) | z) | z); (· (rcases (show (a = k ∧ b = 0 ∧ c = 0) ∨ (a = k ∧ b = 8 ∧ c = 0) ∨ (a = k ∧ b = 9 ∧ c = 0) ∨ (a = k ∧ b = 10 ∧ c = 0) ∨ (a = k ∧ b = 7 ∧ c = 0) by omega) with z | z | z | z | z; (· exact (Or.inl (Or.inl (Or.inl (Or.inl (Or.inl (Or.inl (Or.inl (Or.inl (Or.inl (Or.inl z))))))))))); (· exact (Or.inl (Or.inl (Or.inl (Or.inl (Or.inl (Or.inl (Or.inl (Or.inl (Or.inl (Or.inr z))))))))))); (· exact (Or.inl (Or.inl (Or.inl (Or.inl (Or.inl (Or.inl (Or.inl (Or.inl (Or.inr z)))))))))); (· exact (Or.inl (Or.inl (Or.inl (Or.inl (Or.inl (Or.inl (Or.inl (Or.inr z))))))))); (· exact (Or.inl (Or.inl (Or.inl (Or.inl (Or.inl (Or.inl (Or.inr z)))))))))); (· (exact (Or.inl (Or.inl (Or.inl (Or.inl (Or.inl (Or.inr z)))))))); (· (exact (Or.inl (Or.inl (Or.inl (Or.inr z)))))); (· (exact (Or.inr z))); (· (exfalso; omega)))); (· (intro z; rcases z with ((((((((((z | z) | z) | z) | z) | z) | z) | z) | z) | z) | z); (· (replace z : (a = k ∧ (b = 0 ∨ (7 ≤ b ∧ b ≤ 10)) ∧ c = 0) := (by omega); exact (Or.inl (Or.inl (Or.inl (Or.inl z)))))); (· (replace z : (a = k ∧ (b = 0 ∨ (7 ≤ b ∧ b ≤ 10)) ∧ c = 0) := (by omega); exact (Or.inl (Or.inl (Or.inl (Or.inl z)))))); (· (replace z : (a = k ∧ (b = 0 ∨ (7 ≤ b ∧ b ≤ 10)) ∧ c = 0) := (by omega); exact (Or.inl (Or.inl (Or.inl (Or.inl z)))))); (· (replace z : (a = k ∧ (b = 0 ∨ (7 ≤ b ∧ b ≤ 10)) ∧ c = 0) := (by omega); exact (Or.inl (Or.inl (Or.inl (Or.inl z)))))); (· (replace z : (a = k ∧ (b = 0 ∨ (7 ≤ b ∧ b ≤ 10)) ∧ c = 0) := (by omega); exact (Or.inl (Or.inl (Or.inl (Or.inl z)))))); (· (exact (Or.inl (Or.inl (Or.inl (Or.inr z)))))); (· (exact (Or.inl (Or.inl (Or.inl (Or.inr z)))))); (· (exact (Or.inl (Or.inl (Or.inr z))))); (· (exact (Or.inl (Or.inl (Or.inr z))))); (· (replace z : (a = k ∧ 3 ≤ b ∧ b ≤ 6 ∧ c = 12) := (by omega); exact (Or.inl (Or.inr z)))); (· (exact (Or.inl (Or.inr z))))))) (by intro a b c _ z; rcases z with ((((z | z) | z) | z) | z); (· (rcases (show (a = k ∧ b = 8 ∧ c = 0) ∨ (a = k ∧ b = 9 ∧ c = 0) ∨ (a = k ∧ b = 10 ∧ c = 0) ∨ (a = k ∧ b = 7 ∧ c = 0) ∨ (a = k ∧ b = 0 ∧ c = 0) by omega) with z | z | z | z | z; (· exact (Or.inl (Or.inl (Or.inl (Or.inl (Or.inl (Or.inl (Or.inl (Or.inr z))))))))); (· exact (Or.inl (Or.inl (Or.inl (Or.inl (Or.inl (Or.inl (Or.inr z)))))))); (· exact (Or.inl (Or.inl (Or.inl (Or.inl (Or.inl (Or.inr z))))))); (· exact (Or.inl (Or.inl (Or.inl (Or.inl (Or.inr z)))))); (· exact (Or.inr z)))); (· (exact (Or.inl (Or.inl (Or.inl (Or.inr z)))))); (· (exact (Or.inl (Or.inl (Or.inr z))))); (· (exact (Or.inl (Or.inr z)))); (· (exfalso; omega))) (by intro a b c j r _ z e; rcases z with ((z | z) | z); (· (rcases (show (a = k ∧ b = 0 ∧ c = 0 ∧ j = 10) ∨ (a = k ∧ b = 0 ∧ c = 0 ∧ j = 11) ∨ (a = k ∧ b = 0 ∧ c = 0 ∧ j = 12) ∨ (a = k ∧ b = 0 ∧ c = 0 ∧ j = 13) ∨ (a = k ∧ b = 0 ∧ c = 0 ∧ j = 14) ∨ (a = k ∧ b = 0 ∧ c = 0 ∧ j = 15) ∨ (a = k ∧ b = 0 ∧ c = 0 ∧ j = 16) by first | omega | (have ej := ch_rt_j e; omega)) with z | z | z | z | z | z | z; (· exact (Or.inl (Or.inl (Or.inl (Or.inl (Or.inl (Or.inl (Or.inl (Or.inl (Or.inl (Or.inr z))))))))))); (· exact (Or.inl (Or.inl (Or.inl (Or.inl (Or.inl (Or.inl (Or.inl (Or.inl (Or.inr z)))))))))); (· exact (Or.inl (Or.inl (Or.inl (Or.inl (Or.inl (Or.inl (Or.inl (Or.inr z))))))))); (· exact (Or.inl (Or.inl (Or.inl (Or.inl (Or.inl (Or.inl (Or.inr z)))))))); (· exact (Or.inl (Or.inl (Or.inl (Or.inl (Or.inr z)))))); (· exact (Or.inl (Or.inl (Or.inr z)))); (· exact (Or.inr z)))); (· (replace z : (a = k ∧ 3 ≤ b ∧ b ≤ 6 ∧ c = 12) := (by first | omega | (have ej := ch_rt_j e; omega)); exact (Or.inl (Or.inr z)))); (· (exfalso; omega)))
  refine ca_room (kc' := 10 + 1 * 0) (ks' := 198 + 9 * 0) (by omega) (by omega) ?_
  refine ca_pick [1, 0] rfl ?_
  exact loop_78 8 0 rfl _ rfl _ _ np e_b0
