/-! THE SCRIPT: its ints, or 37 k behind its end -/
def a_cl (E : ch_E) (k : Nat) : Int32 := if k < ch_sn E then ch_sx E k else 37 * nI k
set_option maxHeartbeats 200000 in
theorem c_L_cell {l : Launch} {E : ch_E} {S : ch_S} {μ : ch_M} {k : Nat} (hk : k < 2 ^ 31) : ch_C E l yL_cell cL_cell 2 (some FieldType.int) 1 0 0 S μ [.ref (ch_sb E), .int (nI k)] (ch_F (some (.int (a_cl E k))) S (μ)) := by
  refine ch_enter rfl rfl ?_
  intro X hl0 h hG hR hnm
  have h : ch_H X E RL cL_cell 2 := h
  show ch_W X E 2 S μ 0 0 0 [(0, .ref (ch_sb E)), (1, .int (nI k))] []
  refine ca_iload_n h dL_cell_0 rfl ?_
  refine ca_aload_nr h dL_cell_1 rfl ?_
  refine ca_scl h dL_cell_2 ?_
  refine ca_icmp_ge (tgt := 12) h dL_cell_3 (by decide) (fun c_3 => ?_) (fun c_3 => ?_)
  ·
    have h60 := h.sc.2.2
    have c3 : ¬ k < ch_sn E := fun z => c_3 ((nI_ltI hk (by omega)).mpr z)
    refine ca_bipush h dL_cell_12 bk_37 ?_
    refine ca_iload_n h dL_cell_14 rfl ?_
    refine ca_imul h dL_cell_15 ?_
    refine ca_ireturn h hR rfl dL_cell_16 ?_
    exact ⟨by unfold a_cl; rw [if_neg c3], rfl, rfl⟩
  ·
    have h60 := h.sc.2.2
    have c3 : k < ch_sn E := (nI_ltI hk (by omega)).mp c_3
    have hin : vp_in (nI k) (ch_sn E) := vp_in_nI c3 (by omega)
    refine ca_aload_nr h dL_cell_6 rfl ?_
    refine ca_iload_n h dL_cell_7 rfl ?_
    refine ca_sld h hin dL_cell_8 ?_
    refine ca_goto (tgt := 16) h dL_cell_9 (by decide) ?_
    refine ca_ireturn h hR rfl dL_cell_16 ?_
    exact ⟨by unfold a_cl; rw [if_pos c3, nI_clamp hk], rfl, rfl⟩
