def c_PostR (S : ch_S) (μ : ch_M) (kd net : Nat) : Option Value → ch_S → ch_M → Prop := fun v S' μ' => v = none ∧ S' = s_rf (s_rf S 15 kd 0 0 (S.1 15 12 0)) 15 kd 0 1 (S.1 net 0 0) ∧ μ' = μ
set_option maxHeartbeats 400000 in
theorem c_X4_init {l : Launch} {E : ch_E} {S : ch_S} {μ : ch_M} {net : Nat} (hv : S.2.1 15 35 0) : ch_C E l yX4_init cX4_init 3 none 2 0 0 S μ [.ref (S.1 15 35 0), .ref (S.1 15 12 0), .ref (S.1 net 0 0)] (c_PostR S μ 35 net) := by
  refine ch_enter rfl rfl ?_
  intro X hl0 h hG hR hnm
  have h : ch_H X E RX4 cX4_init 3 := h
  show ch_W X E 3 S μ 0 0 0 [(0, .ref (S.1 15 35 0)), (1, .ref (S.1 15 12 0)), (2, .ref (S.1 net 0 0))] []
  refine ca_aload_nr h dX4_init_0 rfl ?_
  refine ca_objI h hG kw_959 kw_32 kw_33 rfl rfl dX4_init_1 ?_
  refine ca_aload_nr h dX4_init_4 rfl ?_
  refine ca_aload_nr h dX4_init_5 rfl ?_
  refine ca_putR (ci := 4) (j := 0) (k := 15) (kd := 35) (i := 0) (ty := tyX4 0) h rfl rfl li_X4 tyX4 tyX4_ok nmX4 rfl hv rfl (by decide) rfl kw_960 rfl hnm rfl (tyX4_ok 0 (by decide)) rfl rfl dX4_init_6 ?_
  refine ca_aload_nr h dX4_init_9 rfl ?_
  refine ca_aload_nr h dX4_init_10 rfl ?_
  refine ca_putR (ci := 4) (j := 1) (k := 15) (kd := 35) (i := 0) (ty := tyX4 1) h rfl rfl li_X4 tyX4 tyX4_ok nmX4 rfl hv rfl (by decide) rfl kw_961 rfl hnm rfl (tyX4_ok 1 (by decide)) rfl rfl dX4_init_11 ?_
  exact ca_vreturn h hR dX4_init_14 ⟨rfl, rfl, rfl⟩
