theorem dvX0 : ∀ j, j < 9 → defaultValue (tyX0 j) = if ch_rs 0 j = true then .null else .int 0 := by
  intro j hj
  rcases (show j = 0 ∨ j = 1 ∨ j = 2 ∨ j = 3 ∨ j = 4 ∨ j = 5 ∨ j = 6 ∨ j = 7 ∨ j = 8 by omega) with rfl | rfl | rfl | rfl | rfl | rfl | rfl | rfl | rfl <;> rfl
theorem dvX1 : ∀ j, j < 3 → defaultValue (tyX1 j) = if ch_rs 1 j = true then .null else .int 0 := by
  intro j hj
  rcases (show j = 0 ∨ j = 1 ∨ j = 2 by omega) with rfl | rfl | rfl <;> rfl
theorem dvX2 : ∀ j, j < 13 → defaultValue (tyX2 j) = if ch_rs 2 j = true then .null else .int 0 := by
  intro j hj
  rcases (show j = 0 ∨ j = 1 ∨ j = 2 ∨ j = 3 ∨ j = 4 ∨ j = 5 ∨ j = 6 ∨ j = 7 ∨ j = 8 ∨ j = 9 ∨ j = 10 ∨ j = 11 ∨ j = 12 by omega) with rfl | rfl | rfl | rfl | rfl | rfl | rfl | rfl | rfl | rfl | rfl | rfl | rfl <;> rfl
theorem dvX3 : ∀ j, j < 17 → defaultValue (tyX3 j) = if ch_rs 3 j = true then .null else .int 0 := by
  intro j hj
  rcases (show j = 0 ∨ j = 1 ∨ j = 2 ∨ j = 3 ∨ j = 4 ∨ j = 5 ∨ j = 6 ∨ j = 7 ∨ j = 8 ∨ j = 9 ∨ j = 10 ∨ j = 11 ∨ j = 12 ∨ j = 13 ∨ j = 14 ∨ j = 15 ∨ j = 16 by omega) with rfl | rfl | rfl | rfl | rfl | rfl | rfl | rfl | rfl | rfl | rfl | rfl | rfl | rfl | rfl | rfl | rfl <;> rfl
theorem dvX4 : ∀ j, j < 2 → defaultValue (tyX4 j) = if ch_rs 4 j = true then .null else .int 0 := by
  intro j hj
  rcases (show j = 0 ∨ j = 1 by omega) with rfl | rfl <;> rfl
theorem dvX5 : ∀ j, j < 2 → defaultValue (tyX5 j) = if ch_rs 5 j = true then .null else .int 0 := by
  intro j hj
  rcases (show j = 0 ∨ j = 1 by omega) with rfl | rfl <;> rfl
theorem dvX6 : ∀ j, j < 4 → defaultValue (tyX6 j) = if ch_rs 6 j = true then .null else .int 0 := by
  intro j hj
  rcases (show j = 0 ∨ j = 1 ∨ j = 2 ∨ j = 3 by omega) with rfl | rfl | rfl | rfl <;> rfl
theorem dvX7 : ∀ j, j < 4 → defaultValue (tyX7 j) = if ch_rs 7 j = true then .null else .int 0 := by
  intro j hj
  rcases (show j = 0 ∨ j = 1 ∨ j = 2 ∨ j = 3 by omega) with rfl | rfl | rfl | rfl <;> rfl
theorem dvX8 : ∀ j, j < 1 → defaultValue (tyX8 j) = if ch_rs 8 j = true then .null else .int 0 := by
  intro j hj
  rcases (show j = 0 by omega) with rfl <;> rfl
theorem dvX9 : ∀ j, j < 1 → defaultValue (tyX9 j) = if ch_rs 9 j = true then .null else .int 0 := by
  intro j hj
  rcases (show j = 0 by omega) with rfl <;> rfl
theorem dvX10 : ∀ j, j < 8 → defaultValue (tyX10 j) = if ch_rs 10 j = true then .null else .int 0 := by
  intro j hj
  rcases (show j = 0 ∨ j = 1 ∨ j = 2 ∨ j = 3 ∨ j = 4 ∨ j = 5 ∨ j = 6 ∨ j = 7 by omega) with rfl | rfl | rfl | rfl | rfl | rfl | rfl | rfl <;> rfl
theorem dvX11 : ∀ j, j < 8 → defaultValue (tyX11 j) = if ch_rs 11 j = true then .null else .int 0 := by
  intro j hj
  rcases (show j = 0 ∨ j = 1 ∨ j = 2 ∨ j = 3 ∨ j = 4 ∨ j = 5 ∨ j = 6 ∨ j = 7 by omega) with rfl | rfl | rfl | rfl | rfl | rfl | rfl | rfl <;> rfl
theorem dvX12 : ∀ j, j < 25 → defaultValue (tyX12 j) = if ch_rs 12 j = true then .null else .int 0 := by
  intro j hj
  rcases (show j = 0 ∨ j = 1 ∨ j = 2 ∨ j = 3 ∨ j = 4 ∨ j = 5 ∨ j = 6 ∨ j = 7 ∨ j = 8 ∨ j = 9 ∨ j = 10 ∨ j = 11 ∨ j = 12 ∨ j = 13 ∨ j = 14 ∨ j = 15 ∨ j = 16 ∨ j = 17 ∨ j = 18 ∨ j = 19 ∨ j = 20 ∨ j = 21 ∨ j = 22 ∨ j = 23 ∨ j = 24 by omega) with rfl | rfl | rfl | rfl | rfl | rfl | rfl | rfl | rfl | rfl | rfl | rfl | rfl | rfl | rfl | rfl | rfl | rfl | rfl | rfl | rfl | rfl | rfl | rfl | rfl <;> rfl
set_option maxHeartbeats 400000 in
theorem c_X0_init {l : Launch} {E : ch_E} {S : ch_S} {μ : ch_M} {k i : Nat} (hv : S.2.1 k 1 i) (hz : μ k 1 i = fun _ => 0) : ch_C E l yX0_init cX0_init 1 (Option.none : Option Jvm.ClassFile.FieldType) 2 0 0 S μ [.ref (S.1 k 1 i)] (c_Post S μ (PO k 1 i)) := by
  refine ch_enter rfl rfl ?_
  intro X hl0 h hG hR hnm
  have h : ch_H X E RX0 cX0_init 1 := h
  have hb : ∀ {S' : ch_S}, S'.2.1 k 1 i → ch_bs X E S' := fun z => Or.inr ⟨_, _, _, z⟩
  show ch_W X E 1 S μ 0 0 0 [(0, .ref (S.1 k 1 i))] []
  have np := NP_0 (μ := μ) hv
  obtain ⟨b0, e_b0⟩ : ∃ z, S.1 k 1 i = z := ⟨_, rfl⟩
  rw [e_b0]
  have z_b0 := hz
  refine ca_aload_nr h dX0_init_0 rfl ?_
  refine ca_objI h hG kw_86 kw_33 kw_34 rfl rfl dX0_init_1 ?_
  refine ca_room (kc' := 0) (ks' := 0) (by omega) (by omega) ?_
  refine ca_vreturn h hR dX0_init_4 ⟨rfl, ?_⟩
  have np := NP_mem (Z' := NPT) np (show (fun a b c => (a = k ∧ b = 1 ∧ c = i)) k 1 i by (first | omega | trivial | (dsimp only <;> omega) | (simp only [PN, PN0, PM, PO, PB, PH, PX] <;> omega))) (fun a b c _ => rfl) (fun _ => z_b0) (by intro a b c d e; exact absurd d e)
  exact NP_w np (by intro a b c; (first | omega | trivial | (dsimp only <;> omega) | (simp only [PN, PN0, PM, PO, PB, PH, PX] <;> omega))) (by intro a b c d z; (first | omega | trivial | (dsimp only at d z ⊢ <;> omega) | (simp only [PN, PN0, PM, PO, PB, PH, PX] at d z ⊢ <;> omega) | (simp only [PN, PN0, PM, PO, PB, PH, PX] at d ⊢ <;> omega))) (by intro a b c j r d z e; have ej := ch_rt_j e; clear e; (first | omega | trivial | (dsimp only at d z ⊢ <;> omega) | (simp only [PN, PN0, PM, PO, PB, PH, PX] at d z ⊢ <;> omega) | (simp only [PN, PN0, PM, PO, PB, PH, PX] at d ⊢ <;> omega)))
set_option maxHeartbeats 400000 in
theorem c_X7_init {l : Launch} {E : ch_E} {S : ch_S} {μ : ch_M} {k i : Nat} (hv : S.2.1 k 2 i) (hz : μ k 2 i = fun _ => 0) : ch_C E l yX7_init cX7_init 1 (Option.none : Option Jvm.ClassFile.FieldType) 2 0 0 S μ [.ref (S.1 k 2 i)] (c_Post S μ (PO k 2 i)) := by
  refine ch_enter rfl rfl ?_
  intro X hl0 h hG hR hnm
  have h : ch_H X E RX7 cX7_init 1 := h
  have hb : ∀ {S' : ch_S}, S'.2.1 k 2 i → ch_bs X E S' := fun z => Or.inr ⟨_, _, _, z⟩
  show ch_W X E 1 S μ 0 0 0 [(0, .ref (S.1 k 2 i))] []
  have np := NP_0 (μ := μ) hv
  obtain ⟨b0, e_b0⟩ : ∃ z, S.1 k 2 i = z := ⟨_, rfl⟩
  rw [e_b0]
  have z_b0 := hz
  refine ca_aload_nr h dX7_init_0 rfl ?_
  refine ca_objI h hG kw_135 kw_33 kw_34 rfl rfl dX7_init_1 ?_
  refine ca_room (kc' := 0) (ks' := 0) (by omega) (by omega) ?_
  refine ca_vreturn h hR dX7_init_4 ⟨rfl, ?_⟩
  have np := NP_mem (Z' := NPT) np (show (fun a b c => (a = k ∧ b = 2 ∧ c = i)) k 2 i by (first | omega | trivial | (dsimp only <;> omega) | (simp only [PN, PN0, PM, PO, PB, PH, PX] <;> omega))) (fun a b c _ => rfl) (fun _ => z_b0) (by intro a b c d e; exact absurd d e)
  exact NP_w np (by intro a b c; (first | omega | trivial | (dsimp only <;> omega) | (simp only [PN, PN0, PM, PO, PB, PH, PX] <;> omega))) (by intro a b c d z; (first | omega | trivial | (dsimp only at d z ⊢ <;> omega) | (simp only [PN, PN0, PM, PO, PB, PH, PX] at d z ⊢ <;> omega) | (simp only [PN, PN0, PM, PO, PB, PH, PX] at d ⊢ <;> omega))) (by intro a b c j r d z e; have ej := ch_rt_j e; clear e; (first | omega | trivial | (dsimp only at d z ⊢ <;> omega) | (simp only [PN, PN0, PM, PO, PB, PH, PX] at d z ⊢ <;> omega) | (simp only [PN, PN0, PM, PO, PB, PH, PX] at d ⊢ <;> omega)))
