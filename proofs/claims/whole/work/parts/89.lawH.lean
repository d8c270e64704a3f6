/-! THE LAW'S HELPERS -/
def k_Ok (E : ch_E) (S : ch_S) (r : Int32) (M : ch_M) : Option Value → ch_S → ch_M → Prop := fun v S' μ' => v = some (.int r) ∧ ch_Std E S' ∧ (∀ a b c, ¬ (a = 15 ∧ (b = 35 ∨ b = 36) ∧ c = 0) → S'.1 a b c = S.1 a b c) ∧ (∀ a b c, S.2.1 a b c → S'.2.1 a b c) ∧ μ' = M
theorem k_Ok_F {E : ch_E} {S : ch_S} {r : Int32} {M : ch_M} (hs : ch_Std E S) : ∀ v S' μ', ch_F (some (.int r)) S M v S' μ' → k_Ok E S r M v S' μ' := by
  rintro v S' μ' ⟨rfl, rfl, rfl⟩
  exact ⟨rfl, hs, fun _ _ _ _ => rfl, fun _ _ _ z => z, rfl⟩
theorem k_Ok_L {E : ch_E} {S : ch_S} {kd : Nat} {r : Int32} {M : ch_M} (hk : kd = 35 ∨ kd = 36) : ∀ v S' μ', c_PostL E S kd r M v S' μ' → k_Ok E S r M v S' μ' := by
  rintro v S' μ' ⟨rfl, h1, h2, h3, rfl⟩
  exact ⟨rfl, h1, fun a b c e => h2 a b c (fun z => e ⟨z.1, by rcases hk with rfl | rfl <;> omega, z.2.2⟩), h3, rfl⟩
set_option maxHeartbeats 400000 in
theorem c_L_load {l : Launch} {E : ch_E} {S : ch_S} {μ : ch_M} (hs : ch_Std E S) (h34 : S.2.1 17 34 0) {x1 : Int32} {r : Int32} {M : ch_M} (hM : ch_C E l yX11_load cX11_load 2 (some FieldType.int) 30 1 2 S μ [.ref (S.1 15 11 0), .int x1] (k_Ok E S r M)) : ch_CW E l yL_load cL_load 4 (some FieldType.int) [(0, 9, 12, 13)] 31 1 2 S μ [.ref (S.1 15 11 0), .int x1, .ref (S.1 17 34 0)] (k_Ok E S 0 (ch_st M 17 34 0 0 r)) := by
  refine ch_enterW rfl rfl ?_
  intro X hl0 h hG hR ht
  subst hl0
  have h : ch_H X E RL cL_load 4 := h
  show ch_W X E 4 S μ 0 0 0 [(0, .ref (S.1 15 11 0)), (1, .int x1), (2, .ref (S.1 17 34 0))] []
  refine ca_aload_nr h dL_load_0 rfl ?_
  refine ca_iconst h dL_load_1 ik_0 ?_
  refine ca_aload_nr h dL_load_2 rfl ?_
  refine ca_iload_n h dL_load_3 rfl ?_
  refine ca_callV h hG ml_L_7 hM (ci := 11) rfl rfl rfl (hs.1 _ _ _ ⟨rfl, rfl⟩) rfl rfl rfl rfl ⟨Nat.le_of_ble_eq_true rfl, Nat.le_of_ble_eq_true rfl⟩ (Nat.le_of_ble_eq_true rfl) dL_load_4 ?_
  rintro v S' M' ⟨rfl, hs', g, g2, rfl⟩
  show ch_W X E 4 S' M' 1 2 7 [(0, .ref (S.1 15 11 0)), (1, .int x1), (2, .ref (S.1 17 34 0))] [.int r, .int 0, .ref (S.1 17 34 0)]
  refine ca_i2l h dL_load_7 ?_
  refine ca_last h (k := 17) (kd := 34) (i := 0) rfl (g2 17 34 0 h34) (g 17 34 0 (by decide)) (x := 0) (n := 1) (show vp_in (nI 0) 1 from vp_in_nI (by decide) (by decide)) rfl dL_load_8 ?_
  refine ca_goto (tgt := 15) h dL_load_9 (by decide) ?_
  refine ca_iconst h dL_load_15 ik_0 ?_
  exact ca_ireturn h hR rfl dL_load_16 ⟨rfl, hs', g, g2, rfl⟩
set_option maxHeartbeats 400000 in
theorem c_L_load_ia {l : Launch} {E : ch_E} {S : ch_S} {μ : ch_M} (hs : ch_Std E S) {x1 : Int32} (hM : ch_CX E l yX11_load cX11_load 2 (some FieldType.int) 8 1 6 S μ [.ref (S.1 15 11 0), .int x1] (ch_FT vy_ia S μ)) : ch_CW E l yL_load cL_load 4 (some FieldType.int) [(0, 9, 12, 13)] 9 1 6 S μ [.ref (S.1 15 11 0), .int x1, .ref (S.1 17 34 0)] (ch_F (some (.int 1)) S μ) := by
  refine ch_enterW rfl rfl ?_
  intro X hl0 h hG hR ht
  subst hl0
  have h : ch_H X E RL cL_load 4 := h
  show ch_W X E 4 S μ 0 0 0 [(0, .ref (S.1 15 11 0)), (1, .int x1), (2, .ref (S.1 17 34 0))] []
  refine ca_aload_nr h dL_load_0 rfl ?_
  refine ca_iconst h dL_load_1 ik_0 ?_
  refine ca_aload_nr h dL_load_2 rfl ?_
  refine ca_iload_n h dL_load_3 rfl ?_
  refine ca_catch h hG ml_L_7 hM (ci := 11) rfl rfl rfl (hs.1 _ _ _ ⟨rfl, rfl⟩) rfl rfl rfl rfl ⟨Nat.le_of_ble_eq_true rfl, Nat.le_of_ble_eq_true rfl⟩ rfl dL_load_4 [] ({ startPc := 0, endPc := 9, handlerPc := 12, catchType := 13 } : ExceptionTableEntry) [] (ht.trans rfl) (fun z hz => absurd hz List.not_mem_nil) rfl (ct := 13) rfl (by decide) kw_508 (List.mem_of_getElem? (i := 0) rfl) (hpc := 12) rfl (fun q => ?_)
  refine ca_astore_n h dL_load_12 rfl ?_
  refine ca_iconst h dL_load_13 ik_1 ?_
  exact ca_ireturn h hR rfl dL_load_14 ⟨rfl, rfl, rfl⟩
set_option maxHeartbeats 400000 in
theorem c_L_hysteresis {l : Launch} {E : ch_E} {S : ch_S} {μ : ch_M} (hs : ch_Std E S) (h34 : S.2.1 17 34 0) {x1 x2 : Int32} {r : Int32} {M : ch_M} (hM : ch_C E l yX11_hysteresis cX11_hysteresis 4 (some FieldType.int) 2 0 0 S μ [.ref (S.1 15 11 0), .int x1, .int x2] (k_Ok E S r M)) : ch_CW E l yL_hysteresis cL_hysteresis 5 (some FieldType.int) [(0, 10, 13, 19)] 3 0 0 S μ [.ref (S.1 15 11 0), .int x1, .int x2, .ref (S.1 17 34 0)] (k_Ok E S 0 (ch_st M 17 34 0 0 r)) := by
  refine ch_enterW rfl rfl ?_
  intro X hl0 h hG hR ht
  subst hl0
  have h : ch_H X E RL cL_hysteresis 5 := h
  show ch_W X E 5 S μ 0 0 0 [(0, .ref (S.1 15 11 0)), (1, .int x1), (2, .int x2), (3, .ref (S.1 17 34 0))] []
  refine ca_aload_nr h dL_hysteresis_0 rfl ?_
  refine ca_iconst h dL_hysteresis_1 ik_0 ?_
  refine ca_aload_nr h dL_hysteresis_2 rfl ?_
  refine ca_iload_n h dL_hysteresis_3 rfl ?_
  refine ca_iload_n h dL_hysteresis_4 rfl ?_
  refine ca_callV h hG ml_L_15 hM (ci := 11) rfl rfl rfl (hs.1 _ _ _ ⟨rfl, rfl⟩) rfl rfl rfl rfl ⟨Nat.le_of_ble_eq_true rfl, Nat.le_of_ble_eq_true rfl⟩ (Nat.le_of_ble_eq_true rfl) dL_hysteresis_5 ?_
  rintro v S' M' ⟨rfl, hs', g, g2, rfl⟩
  show ch_W X E 5 S' M' 0 0 8 [(0, .ref (S.1 15 11 0)), (1, .int x1), (2, .int x2), (3, .ref (S.1 17 34 0))] [.int r, .int 0, .ref (S.1 17 34 0)]
  refine ca_i2l h dL_hysteresis_8 ?_
  refine ca_last h (k := 17) (kd := 34) (i := 0) rfl (g2 17 34 0 h34) (g 17 34 0 (by decide)) (x := 0) (n := 1) (show vp_in (nI 0) 1 from vp_in_nI (by decide) (by decide)) rfl dL_hysteresis_9 ?_
  refine ca_goto (tgt := 17) h dL_hysteresis_10 (by decide) ?_
  refine ca_iconst h dL_hysteresis_17 ik_0 ?_
  exact ca_ireturn h hR rfl dL_hysteresis_18 ⟨rfl, hs', g, g2, rfl⟩
set_option maxHeartbeats 400000 in
theorem c_L_hysteresis_ns {l : Launch} {E : ch_E} {S : ch_S} {μ : ch_M} (hs : ch_Std E S) {x1 x2 : Int32} (hM : ch_CX E l yX11_hysteresis cX11_hysteresis 4 (some FieldType.int) 8 1 6 S μ [.ref (S.1 15 11 0), .int x1, .int x2] (ch_FT vy_ns S μ)) : ch_CW E l yL_hysteresis cL_hysteresis 5 (some FieldType.int) [(0, 10, 13, 19)] 9 1 6 S μ [.ref (S.1 15 11 0), .int x1, .int x2, .ref (S.1 17 34 0)] (ch_F (some (.int 1)) S μ) := by
  refine ch_enterW rfl rfl ?_
  intro X hl0 h hG hR ht
  subst hl0
  have h : ch_H X E RL cL_hysteresis 5 := h
  show ch_W X E 5 S μ 0 0 0 [(0, .ref (S.1 15 11 0)), (1, .int x1), (2, .int x2), (3, .ref (S.1 17 34 0))] []
  refine ca_aload_nr h dL_hysteresis_0 rfl ?_
  refine ca_iconst h dL_hysteresis_1 ik_0 ?_
  refine ca_aload_nr h dL_hysteresis_2 rfl ?_
  refine ca_iload_n h dL_hysteresis_3 rfl ?_
  refine ca_iload_n h dL_hysteresis_4 rfl ?_
  refine ca_catch h hG ml_L_15 hM (ci := 11) rfl rfl rfl (hs.1 _ _ _ ⟨rfl, rfl⟩) rfl rfl rfl rfl ⟨Nat.le_of_ble_eq_true rfl, Nat.le_of_ble_eq_true rfl⟩ rfl dL_hysteresis_5 [] ({ startPc := 0, endPc := 10, handlerPc := 13, catchType := 19 } : ExceptionTableEntry) [] (ht.trans rfl) (fun z hz => absurd hz List.not_mem_nil) rfl (ct := 19) rfl (by decide) kw_733 (List.mem_of_getElem? (i := 1) rfl) (hpc := 13) rfl (fun q => ?_)
  refine ca_astore h dL_hysteresis_13 rfl ?_
  refine ca_iconst h dL_hysteresis_15 ik_1 ?_
  exact ca_ireturn h hR rfl dL_hysteresis_16 ⟨rfl, rfl, rfl⟩
set_option maxHeartbeats 400000 in
theorem c_L_level {l : Launch} {E : ch_E} {S : ch_S} {μ : ch_M} (hs : ch_Std E S) (h34 : S.2.1 17 34 0) {x1 x2 x3 : Int32} {r : Int32} {M : ch_M} (hM : ch_C E l yX11_level cX11_level 4 (some FieldType.int) 2 0 0 S μ [.ref (S.1 15 11 0), .int x1, .int x2, .int x3] (k_Ok E S r M)) : ch_CW E l yL_level cL_level 6 (some FieldType.int) [(0, 12, 15, 19), (0, 12, 19, 13)] 3 0 0 S μ [.ref (S.1 15 11 0), .int x1, .int x2, .int x3, .ref (S.1 17 34 0)] (k_Ok E S 0 (ch_st M 17 34 0 0 r)) := by
  refine ch_enterW rfl rfl ?_
  intro X hl0 h hG hR ht
  subst hl0
  have h : ch_H X E RL cL_level 6 := h
  show ch_W X E 6 S μ 0 0 0 [(0, .ref (S.1 15 11 0)), (1, .int x1), (2, .int x2), (3, .int x3), (4, .ref (S.1 17 34 0))] []
  refine ca_aload h dL_level_0 rfl ?_
  refine ca_iconst h dL_level_2 ik_0 ?_
  refine ca_aload_nr h dL_level_3 rfl ?_
  refine ca_iload_n h dL_level_4 rfl ?_
  refine ca_iload_n h dL_level_5 rfl ?_
  refine ca_iload_n h dL_level_6 rfl ?_
  refine ca_callV h hG ml_L_21 hM (ci := 11) rfl rfl rfl (hs.1 _ _ _ ⟨rfl, rfl⟩) rfl rfl rfl rfl ⟨Nat.le_of_ble_eq_true rfl, Nat.le_of_ble_eq_true rfl⟩ (Nat.le_of_ble_eq_true rfl) dL_level_7 ?_
  rintro v S' M' ⟨rfl, hs', g, g2, rfl⟩
  show ch_W X E 6 S' M' 0 0 10 [(0, .ref (S.1 15 11 0)), (1, .int x1), (2, .int x2), (3, .int x3), (4, .ref (S.1 17 34 0))] [.int r, .int 0, .ref (S.1 17 34 0)]
  refine ca_i2l h dL_level_10 ?_
  refine ca_last h (k := 17) (kd := 34) (i := 0) rfl (g2 17 34 0 h34) (g 17 34 0 (by decide)) (x := 0) (n := 1) (show vp_in (nI 0) 1 from vp_in_nI (by decide) (by decide)) rfl dL_level_11 ?_
  refine ca_goto (tgt := 23) h dL_level_12 (by decide) ?_
  refine ca_iconst h dL_level_23 ik_0 ?_
  exact ca_ireturn h hR rfl dL_level_24 ⟨rfl, hs', g, g2, rfl⟩
set_option maxHeartbeats 400000 in
theorem c_L_level_ns {l : Launch} {E : ch_E} {S : ch_S} {μ : ch_M} (hs : ch_Std E S) {x1 x2 x3 : Int32} (hM : ch_CX E l yX11_level cX11_level 4 (some FieldType.int) 8 1 6 S μ [.ref (S.1 15 11 0), .int x1, .int x2, .int x3] (ch_FT vy_ns S μ)) : ch_CW E l yL_level cL_level 6 (some FieldType.int) [(0, 12, 15, 19), (0, 12, 19, 13)] 9 1 6 S μ [.ref (S.1 15 11 0), .int x1, .int x2, .int x3, .ref (S.1 17 34 0)] (ch_F (some (.int 1)) S μ) := by
  refine ch_enterW rfl rfl ?_
  intro X hl0 h hG hR ht
  subst hl0
  have h : ch_H X E RL cL_level 6 := h
  show ch_W X E 6 S μ 0 0 0 [(0, .ref (S.1 15 11 0)), (1, .int x1), (2, .int x2), (3, .int x3), (4, .ref (S.1 17 34 0))] []
  refine ca_aload h dL_level_0 rfl ?_
  refine ca_iconst h dL_level_2 ik_0 ?_
  refine ca_aload_nr h dL_level_3 rfl ?_
  refine ca_iload_n h dL_level_4 rfl ?_
  refine ca_iload_n h dL_level_5 rfl ?_
  refine ca_iload_n h dL_level_6 rfl ?_
  refine ca_catch h hG ml_L_21 hM (ci := 11) rfl rfl rfl (hs.1 _ _ _ ⟨rfl, rfl⟩) rfl rfl rfl rfl ⟨Nat.le_of_ble_eq_true rfl, Nat.le_of_ble_eq_true rfl⟩ rfl dL_level_7 [] ({ startPc := 0, endPc := 12, handlerPc := 15, catchType := 19 } : ExceptionTableEntry) [({ startPc := 0, endPc := 12, handlerPc := 19, catchType := 13 } : ExceptionTableEntry)] (ht.trans rfl) (fun z hz => absurd hz List.not_mem_nil) rfl (ct := 19) rfl (by decide) kw_733 (List.mem_of_getElem? (i := 1) rfl) (hpc := 15) rfl (fun q => ?_)
  refine ca_astore h dL_level_15 rfl ?_
  refine ca_iconst h dL_level_17 ik_1 ?_
  exact ca_ireturn h hR rfl dL_level_18 ⟨rfl, rfl, rfl⟩
set_option maxHeartbeats 400000 in
theorem c_L_level_ia {l : Launch} {E : ch_E} {S : ch_S} {μ : ch_M} (hs : ch_Std E S) {x1 x2 x3 : Int32} (hM : ch_CX E l yX11_level cX11_level 4 (some FieldType.int) 8 1 6 S μ [.ref (S.1 15 11 0), .int x1, .int x2, .int x3] (ch_FT vy_ia S μ)) : ch_CW E l yL_level cL_level 6 (some FieldType.int) [(0, 12, 15, 19), (0, 12, 19, 13)] 9 1 6 S μ [.ref (S.1 15 11 0), .int x1, .int x2, .int x3, .ref (S.1 17 34 0)] (ch_F (some (.int 2)) S μ) := by
  refine ch_enterW rfl rfl ?_
  intro X hl0 h hG hR ht
  subst hl0
  have h : ch_H X E RL cL_level 6 := h
  show ch_W X E 6 S μ 0 0 0 [(0, .ref (S.1 15 11 0)), (1, .int x1), (2, .int x2), (3, .int x3), (4, .ref (S.1 17 34 0))] []
  refine ca_aload h dL_level_0 rfl ?_
  refine ca_iconst h dL_level_2 ik_0 ?_
  refine ca_aload_nr h dL_level_3 rfl ?_
  refine ca_iload_n h dL_level_4 rfl ?_
  refine ca_iload_n h dL_level_5 rfl ?_
  refine ca_iload_n h dL_level_6 rfl ?_
  refine ca_catch h hG ml_L_21 hM (ci := 11) rfl rfl rfl (hs.1 _ _ _ ⟨rfl, rfl⟩) rfl rfl rfl rfl ⟨Nat.le_of_ble_eq_true rfl, Nat.le_of_ble_eq_true rfl⟩ rfl dL_level_7 [({ startPc := 0, endPc := 12, handlerPc := 15, catchType := 19 } : ExceptionTableEntry)] ({ startPc := 0, endPc := 12, handlerPc := 19, catchType := 13 } : ExceptionTableEntry) [] (ht.trans rfl) (fun z hz => by rw [List.mem_singleton.mp hz]; exact ⟨Nat.succ_ne_zero _, "java/util/NoSuchElementException", kw_733, List.mem_of_getElem? (i := 4) rfl⟩) rfl (ct := 13) rfl (by decide) kw_508 (List.mem_of_getElem? (i := 0) rfl) (hpc := 19) rfl (fun q => ?_)
  refine ca_astore h dL_level_19 rfl ?_
  refine ca_iconst h dL_level_21 ik_2 ?_
  exact ca_ireturn h hR rfl dL_level_22 ⟨rfl, rfl, rfl⟩
set_option maxHeartbeats 400000 in
theorem c_L_strongestCell {l : Launch} {E : ch_E} {S : ch_S} {μ : ch_M} (hs : ch_Std E S) (h34 : S.2.1 17 34 0) {x1 x2 : Int32} {r : Int32} {M : ch_M} (hM : ch_C E l yX11_strongestCell cX11_strongestCell 3 (some FieldType.int) 4 0 0 S μ [.ref (S.1 15 11 0), .int x1, .int x2] (k_Ok E S r M)) : ch_CW E l yL_strongestCell cL_strongestCell 5 (some FieldType.int) [(0, 10, 13, 13)] 5 0 0 S μ [.ref (S.1 15 11 0), .int x1, .int x2, .ref (S.1 17 34 0)] (k_Ok E S 0 (ch_st M 17 34 0 0 r)) := by
  refine ch_enterW rfl rfl ?_
  intro X hl0 h hG hR ht
  subst hl0
  have h : ch_H X E RL cL_strongestCell 5 := h
  show ch_W X E 5 S μ 0 0 0 [(0, .ref (S.1 15 11 0)), (1, .int x1), (2, .int x2), (3, .ref (S.1 17 34 0))] []
  refine ca_aload_nr h dL_strongestCell_0 rfl ?_
  refine ca_iconst h dL_strongestCell_1 ik_0 ?_
  refine ca_aload_nr h dL_strongestCell_2 rfl ?_
  refine ca_iload_n h dL_strongestCell_3 rfl ?_
  refine ca_iload_n h dL_strongestCell_4 rfl ?_
  refine ca_callV h hG ml_L_25 hM (ci := 11) rfl rfl rfl (hs.1 _ _ _ ⟨rfl, rfl⟩) rfl rfl rfl rfl ⟨Nat.le_of_ble_eq_true rfl, Nat.le_of_ble_eq_true rfl⟩ (Nat.le_of_ble_eq_true rfl) dL_strongestCell_5 ?_
  rintro v S' M' ⟨rfl, hs', g, g2, rfl⟩
  show ch_W X E 5 S' M' 0 0 8 [(0, .ref (S.1 15 11 0)), (1, .int x1), (2, .int x2), (3, .ref (S.1 17 34 0))] [.int r, .int 0, .ref (S.1 17 34 0)]
  refine ca_i2l h dL_strongestCell_8 ?_
  refine ca_last h (k := 17) (kd := 34) (i := 0) rfl (g2 17 34 0 h34) (g 17 34 0 (by decide)) (x := 0) (n := 1) (show vp_in (nI 0) 1 from vp_in_nI (by decide) (by decide)) rfl dL_strongestCell_9 ?_
  refine ca_goto (tgt := 17) h dL_strongestCell_10 (by decide) ?_
  refine ca_iconst h dL_strongestCell_17 ik_0 ?_
  exact ca_ireturn h hR rfl dL_strongestCell_18 ⟨rfl, hs', g, g2, rfl⟩
set_option maxHeartbeats 400000 in
theorem c_L_strongestCell_ia {l : Launch} {E : ch_E} {S : ch_S} {μ : ch_M} (hs : ch_Std E S) {x1 x2 : Int32} (hM : ch_CX E l yX11_strongestCell cX11_strongestCell 3 (some FieldType.int) 8 1 6 S μ [.ref (S.1 15 11 0), .int x1, .int x2] (ch_FT vy_ia S μ)) : ch_CW E l yL_strongestCell cL_strongestCell 5 (some FieldType.int) [(0, 10, 13, 13)] 9 1 6 S μ [.ref (S.1 15 11 0), .int x1, .int x2, .ref (S.1 17 34 0)] (ch_F (some (.int 1)) S μ) := by
  refine ch_enterW rfl rfl ?_
  intro X hl0 h hG hR ht
  subst hl0
  have h : ch_H X E RL cL_strongestCell 5 := h
  show ch_W X E 5 S μ 0 0 0 [(0, .ref (S.1 15 11 0)), (1, .int x1), (2, .int x2), (3, .ref (S.1 17 34 0))] []
  refine ca_aload_nr h dL_strongestCell_0 rfl ?_
  refine ca_iconst h dL_strongestCell_1 ik_0 ?_
  refine ca_aload_nr h dL_strongestCell_2 rfl ?_
  refine ca_iload_n h dL_strongestCell_3 rfl ?_
  refine ca_iload_n h dL_strongestCell_4 rfl ?_
  refine ca_catch h hG ml_L_25 hM (ci := 11) rfl rfl rfl (hs.1 _ _ _ ⟨rfl, rfl⟩) rfl rfl rfl rfl ⟨Nat.le_of_ble_eq_true rfl, Nat.le_of_ble_eq_true rfl⟩ rfl dL_strongestCell_5 [] ({ startPc := 0, endPc := 10, handlerPc := 13, catchType := 13 } : ExceptionTableEntry) [] (ht.trans rfl) (fun z hz => absurd hz List.not_mem_nil) rfl (ct := 13) rfl (by decide) kw_508 (List.mem_of_getElem? (i := 0) rfl) (hpc := 13) rfl (fun q => ?_)
  refine ca_astore h dL_strongestCell_13 rfl ?_
  refine ca_iconst h dL_strongestCell_15 ik_1 ?_
  exact ca_ireturn h hR rfl dL_strongestCell_16 ⟨rfl, rfl, rfl⟩
set_option maxHeartbeats 400000 in
theorem c_L_coverage {l : Launch} {E : ch_E} {S : ch_S} {μ : ch_M} (hs : ch_Std E S) (h34 : S.2.1 17 34 0) {x1 : Int32} {r : Int32} {M : ch_M} (hM : ch_C E l yX11_coverage cX11_coverage 2 (some FieldType.int) 5 0 0 S μ [.ref (S.1 15 11 0), .int x1] (k_Ok E S r M)) : ch_CW E l yL_coverage cL_coverage 4 (some FieldType.int) [(0, 9, 12, 19)] 6 0 0 S μ [.ref (S.1 15 11 0), .int x1, .ref (S.1 17 34 0)] (k_Ok E S 0 (ch_st M 17 34 0 0 r)) := by
  refine ch_enterW rfl rfl ?_
  intro X hl0 h hG hR ht
  subst hl0
  have h : ch_H X E RL cL_coverage 4 := h
  show ch_W X E 4 S μ 0 0 0 [(0, .ref (S.1 15 11 0)), (1, .int x1), (2, .ref (S.1 17 34 0))] []
  refine ca_aload_nr h dL_coverage_0 rfl ?_
  refine ca_iconst h dL_coverage_1 ik_0 ?_
  refine ca_aload_nr h dL_coverage_2 rfl ?_
  refine ca_iload_n h dL_coverage_3 rfl ?_
  refine ca_callV h hG ml_L_28 hM (ci := 11) rfl rfl rfl (hs.1 _ _ _ ⟨rfl, rfl⟩) rfl rfl rfl rfl ⟨Nat.le_of_ble_eq_true rfl, Nat.le_of_ble_eq_true rfl⟩ (Nat.le_of_ble_eq_true rfl) dL_coverage_4 ?_
  rintro v S' M' ⟨rfl, hs', g, g2, rfl⟩
  show ch_W X E 4 S' M' 0 0 7 [(0, .ref (S.1 15 11 0)), (1, .int x1), (2, .ref (S.1 17 34 0))] [.int r, .int 0, .ref (S.1 17 34 0)]
  refine ca_i2l h dL_coverage_7 ?_
  refine ca_last h (k := 17) (kd := 34) (i := 0) rfl (g2 17 34 0 h34) (g 17 34 0 (by decide)) (x := 0) (n := 1) (show vp_in (nI 0) 1 from vp_in_nI (by decide) (by decide)) rfl dL_coverage_8 ?_
  refine ca_goto (tgt := 15) h dL_coverage_9 (by decide) ?_
  refine ca_iconst h dL_coverage_15 ik_0 ?_
  exact ca_ireturn h hR rfl dL_coverage_16 ⟨rfl, hs', g, g2, rfl⟩
set_option maxHeartbeats 400000 in
theorem c_L_coverage_ns {l : Launch} {E : ch_E} {S : ch_S} {μ : ch_M} (hs : ch_Std E S) {x1 : Int32} (hM : ch_CX E l yX11_coverage cX11_coverage 2 (some FieldType.int) 8 1 6 S μ [.ref (S.1 15 11 0), .int x1] (ch_FT vy_ns S μ)) : ch_CW E l yL_coverage cL_coverage 4 (some FieldType.int) [(0, 9, 12, 19)] 9 1 6 S μ [.ref (S.1 15 11 0), .int x1, .ref (S.1 17 34 0)] (ch_F (some (.int 1)) S μ) := by
  refine ch_enterW rfl rfl ?_
  intro X hl0 h hG hR ht
  subst hl0
  have h : ch_H X E RL cL_coverage 4 := h
  show ch_W X E 4 S μ 0 0 0 [(0, .ref (S.1 15 11 0)), (1, .int x1), (2, .ref (S.1 17 34 0))] []
  refine ca_aload_nr h dL_coverage_0 rfl ?_
  refine ca_iconst h dL_coverage_1 ik_0 ?_
  refine ca_aload_nr h dL_coverage_2 rfl ?_
  refine ca_iload_n h dL_coverage_3 rfl ?_
  refine ca_catch h hG ml_L_28 hM (ci := 11) rfl rfl rfl (hs.1 _ _ _ ⟨rfl, rfl⟩) rfl rfl rfl rfl ⟨Nat.le_of_ble_eq_true rfl, Nat.le_of_ble_eq_true rfl⟩ rfl dL_coverage_4 [] ({ startPc := 0, endPc := 9, handlerPc := 12, catchType := 19 } : ExceptionTableEntry) [] (ht.trans rfl) (fun z hz => absurd hz List.not_mem_nil) rfl (ct := 19) rfl (by decide) kw_733 (List.mem_of_getElem? (i := 1) rfl) (hpc := 12) rfl (fun q => ?_)
  refine ca_astore_n h dL_coverage_12 rfl ?_
  refine ca_iconst h dL_coverage_13 ik_1 ?_
  exact ca_ireturn h hR rfl dL_coverage_14 ⟨rfl, rfl, rfl⟩
set_option maxHeartbeats 400000 in
theorem c_L_missingRelation {l : Launch} {E : ch_E} {S : ch_S} {μ : ch_M} (hs : ch_Std E S) (h34 : S.2.1 17 34 0) {x1 : Int32} {r : Int32} {M : ch_M} (hM : ch_C E l yX11_missingRelation cX11_missingRelation 2 (some FieldType.int) 5 0 0 S μ [.ref (S.1 15 11 0), .int x1] (k_Ok E S r M)) : ch_CW E l yL_missingRelation cL_missingRelation 4 (some FieldType.int) [(0, 9, 12, 13)] 6 0 0 S μ [.ref (S.1 15 11 0), .int x1, .ref (S.1 17 34 0)] (k_Ok E S 0 (ch_st M 17 34 0 0 r)) := by
  refine ch_enterW rfl rfl ?_
  intro X hl0 h hG hR ht
  subst hl0
  have h : ch_H X E RL cL_missingRelation 4 := h
  show ch_W X E 4 S μ 0 0 0 [(0, .ref (S.1 15 11 0)), (1, .int x1), (2, .ref (S.1 17 34 0))] []
  refine ca_aload_nr h dL_missingRelation_0 rfl ?_
  refine ca_iconst h dL_missingRelation_1 ik_0 ?_
  refine ca_aload_nr h dL_missingRelation_2 rfl ?_
  refine ca_iload_n h dL_missingRelation_3 rfl ?_
  refine ca_callV h hG ml_L_31 hM (ci := 11) rfl rfl rfl (hs.1 _ _ _ ⟨rfl, rfl⟩) rfl rfl rfl rfl ⟨Nat.le_of_ble_eq_true rfl, Nat.le_of_ble_eq_true rfl⟩ (Nat.le_of_ble_eq_true rfl) dL_missingRelation_4 ?_
  rintro v S' M' ⟨rfl, hs', g, g2, rfl⟩
  show ch_W X E 4 S' M' 0 0 7 [(0, .ref (S.1 15 11 0)), (1, .int x1), (2, .ref (S.1 17 34 0))] [.int r, .int 0, .ref (S.1 17 34 0)]
  refine ca_i2l h dL_missingRelation_7 ?_
  refine ca_last h (k := 17) (kd := 34) (i := 0) rfl (g2 17 34 0 h34) (g 17 34 0 (by decide)) (x := 0) (n := 1) (show vp_in (nI 0) 1 from vp_in_nI (by decide) (by decide)) rfl dL_missingRelation_8 ?_
  refine ca_goto (tgt := 15) h dL_missingRelation_9 (by decide) ?_
  refine ca_iconst h dL_missingRelation_15 ik_0 ?_
  exact ca_ireturn h hR rfl dL_missingRelation_16 ⟨rfl, hs', g, g2, rfl⟩
set_option maxHeartbeats 400000 in
theorem c_L_missingRelation_ia {l : Launch} {E : ch_E} {S : ch_S} {μ : ch_M} (hs : ch_Std E S) {x1 : Int32} (hM : ch_CX E l yX11_missingRelation cX11_missingRelation 2 (some FieldType.int) 8 1 6 S μ [.ref (S.1 15 11 0), .int x1] (ch_FT vy_ia S μ)) : ch_CW E l yL_missingRelation cL_missingRelation 4 (some FieldType.int) [(0, 9, 12, 13)] 9 1 6 S μ [.ref (S.1 15 11 0), .int x1, .ref (S.1 17 34 0)] (ch_F (some (.int 1)) S μ) := by
  refine ch_enterW rfl rfl ?_
  intro X hl0 h hG hR ht
  subst hl0
  have h : ch_H X E RL cL_missingRelation 4 := h
  show ch_W X E 4 S μ 0 0 0 [(0, .ref (S.1 15 11 0)), (1, .int x1), (2, .ref (S.1 17 34 0))] []
  refine ca_aload_nr h dL_missingRelation_0 rfl ?_
  refine ca_iconst h dL_missingRelation_1 ik_0 ?_
  refine ca_aload_nr h dL_missingRelation_2 rfl ?_
  refine ca_iload_n h dL_missingRelation_3 rfl ?_
  refine ca_catch h hG ml_L_31 hM (ci := 11) rfl rfl rfl (hs.1 _ _ _ ⟨rfl, rfl⟩) rfl rfl rfl rfl ⟨Nat.le_of_ble_eq_true rfl, Nat.le_of_ble_eq_true rfl⟩ rfl dL_missingRelation_4 [] ({ startPc := 0, endPc := 9, handlerPc := 12, catchType := 13 } : ExceptionTableEntry) [] (ht.trans rfl) (fun z hz => absurd hz List.not_mem_nil) rfl (ct := 13) rfl (by decide) kw_508 (List.mem_of_getElem? (i := 0) rfl) (hpc := 12) rfl (fun q => ?_)
  refine ca_astore_n h dL_missingRelation_12 rfl ?_
  refine ca_iconst h dL_missingRelation_13 ik_1 ?_
  exact ca_ireturn h hR rfl dL_missingRelation_14 ⟨rfl, rfl, rfl⟩
set_option maxHeartbeats 400000 in
theorem c_L_addMobile {l : Launch} {E : ch_E} {S : ch_S} {μ : ch_M} (hs : ch_Std E S) (h34 : S.2.1 17 34 0) {x1 x2 x3 x4 : Int32} {r : Int32} {M : ch_M} (hM : ch_C E l yX11_addMobile cX11_addMobile 6 (some FieldType.int) 5 0 0 S μ [.ref (S.1 15 11 0), .int x1, .int x2, .int x3, .int x4] (k_Ok E S r M)) : ch_CW E l yL_addMobile cL_addMobile 7 (some FieldType.int) [(0, 14, 17, 13)] 6 0 0 S μ [.ref (S.1 15 11 0), .int x1, .int x2, .int x3, .int x4, .ref (S.1 17 34 0)] (k_Ok E S 0 (ch_st M 17 34 0 0 r)) := by
  refine ch_enterW rfl rfl ?_
  intro X hl0 h hG hR ht
  subst hl0
  have h : ch_H X E RL cL_addMobile 7 := h
  show ch_W X E 7 S μ 0 0 0 [(0, .ref (S.1 15 11 0)), (1, .int x1), (2, .int x2), (3, .int x3), (4, .int x4), (5, .ref (S.1 17 34 0))] []
  refine ca_aload h dL_addMobile_0 rfl ?_
  refine ca_iconst h dL_addMobile_2 ik_0 ?_
  refine ca_aload_nr h dL_addMobile_3 rfl ?_
  refine ca_iload_n h dL_addMobile_4 rfl ?_
  refine ca_iload_n h dL_addMobile_5 rfl ?_
  refine ca_iload_n h dL_addMobile_6 rfl ?_
  refine ca_iload h dL_addMobile_7 rfl ?_
  refine ca_callV h hG ml_L_34 hM (ci := 11) rfl rfl rfl (hs.1 _ _ _ ⟨rfl, rfl⟩) rfl rfl rfl rfl ⟨Nat.le_of_ble_eq_true rfl, Nat.le_of_ble_eq_true rfl⟩ (Nat.le_of_ble_eq_true rfl) dL_addMobile_9 ?_
  rintro v S' M' ⟨rfl, hs', g, g2, rfl⟩
  show ch_W X E 7 S' M' 0 0 12 [(0, .ref (S.1 15 11 0)), (1, .int x1), (2, .int x2), (3, .int x3), (4, .int x4), (5, .ref (S.1 17 34 0))] [.int r, .int 0, .ref (S.1 17 34 0)]
  refine ca_i2l h dL_addMobile_12 ?_
  refine ca_last h (k := 17) (kd := 34) (i := 0) rfl (g2 17 34 0 h34) (g 17 34 0 (by decide)) (x := 0) (n := 1) (show vp_in (nI 0) 1 from vp_in_nI (by decide) (by decide)) rfl dL_addMobile_13 ?_
  refine ca_goto (tgt := 21) h dL_addMobile_14 (by decide) ?_
  refine ca_iconst h dL_addMobile_21 ik_0 ?_
  exact ca_ireturn h hR rfl dL_addMobile_22 ⟨rfl, hs', g, g2, rfl⟩
set_option maxHeartbeats 400000 in
theorem c_L_addMobile_ia {l : Launch} {E : ch_E} {S : ch_S} {μ : ch_M} (hs : ch_Std E S) {x1 x2 x3 x4 : Int32} (hM : ch_CX E l yX11_addMobile cX11_addMobile 6 (some FieldType.int) 8 1 6 S μ [.ref (S.1 15 11 0), .int x1, .int x2, .int x3, .int x4] (ch_FT vy_ia S μ)) : ch_CW E l yL_addMobile cL_addMobile 7 (some FieldType.int) [(0, 14, 17, 13)] 9 1 6 S μ [.ref (S.1 15 11 0), .int x1, .int x2, .int x3, .int x4, .ref (S.1 17 34 0)] (ch_F (some (.int 1)) S μ) := by
  refine ch_enterW rfl rfl ?_
  intro X hl0 h hG hR ht
  subst hl0
  have h : ch_H X E RL cL_addMobile 7 := h
  show ch_W X E 7 S μ 0 0 0 [(0, .ref (S.1 15 11 0)), (1, .int x1), (2, .int x2), (3, .int x3), (4, .int x4), (5, .ref (S.1 17 34 0))] []
  refine ca_aload h dL_addMobile_0 rfl ?_
  refine ca_iconst h dL_addMobile_2 ik_0 ?_
  refine ca_aload_nr h dL_addMobile_3 rfl ?_
  refine ca_iload_n h dL_addMobile_4 rfl ?_
  refine ca_iload_n h dL_addMobile_5 rfl ?_
  refine ca_iload_n h dL_addMobile_6 rfl ?_
  refine ca_iload h dL_addMobile_7 rfl ?_
  refine ca_catch h hG ml_L_34 hM (ci := 11) rfl rfl rfl (hs.1 _ _ _ ⟨rfl, rfl⟩) rfl rfl rfl rfl ⟨Nat.le_of_ble_eq_true rfl, Nat.le_of_ble_eq_true rfl⟩ rfl dL_addMobile_9 [] ({ startPc := 0, endPc := 14, handlerPc := 17, catchType := 13 } : ExceptionTableEntry) [] (ht.trans rfl) (fun z hz => absurd hz List.not_mem_nil) rfl (ct := 13) rfl (by decide) kw_508 (List.mem_of_getElem? (i := 0) rfl) (hpc := 17) rfl (fun q => ?_)
  refine ca_astore h dL_addMobile_17 rfl ?_
  refine ca_iconst h dL_addMobile_19 ik_1 ?_
  exact ca_ireturn h hR rfl dL_addMobile_20 ⟨rfl, rfl, rfl⟩
set_option maxHeartbeats 400000 in
theorem c_L_setVelocity {l : Launch} {E : ch_E} {S : ch_S} {μ : ch_M} (hs : ch_Std E S) (h34 : S.2.1 17 34 0) {x1 x2 x3 : Int32} {r : Int32} {M : ch_M} (hM : ch_C E l yX11_setVelocity cX11_setVelocity 5 (some FieldType.int) 5 0 0 S μ [.ref (S.1 15 11 0), .int x1, .int x2, .int x3] (k_Ok E S r M)) : ch_CW E l yL_setVelocity cL_setVelocity 6 (some FieldType.int) [(0, 12, 15, 19), (0, 12, 19, 13)] 6 0 0 S μ [.ref (S.1 15 11 0), .int x1, .int x2, .int x3, .ref (S.1 17 34 0)] (k_Ok E S 0 (ch_st M 17 34 0 0 r)) := by
  refine ch_enterW rfl rfl ?_
  intro X hl0 h hG hR ht
  subst hl0
  have h : ch_H X E RL cL_setVelocity 6 := h
  show ch_W X E 6 S μ 0 0 0 [(0, .ref (S.1 15 11 0)), (1, .int x1), (2, .int x2), (3, .int x3), (4, .ref (S.1 17 34 0))] []
  refine ca_aload h dL_setVelocity_0 rfl ?_
  refine ca_iconst h dL_setVelocity_2 ik_0 ?_
  refine ca_aload_nr h dL_setVelocity_3 rfl ?_
  refine ca_iload_n h dL_setVelocity_4 rfl ?_
  refine ca_iload_n h dL_setVelocity_5 rfl ?_
  refine ca_iload_n h dL_setVelocity_6 rfl ?_
  refine ca_callV h hG ml_L_38 hM (ci := 11) rfl rfl rfl (hs.1 _ _ _ ⟨rfl, rfl⟩) rfl rfl rfl rfl ⟨Nat.le_of_ble_eq_true rfl, Nat.le_of_ble_eq_true rfl⟩ (Nat.le_of_ble_eq_true rfl) dL_setVelocity_7 ?_
  rintro v S' M' ⟨rfl, hs', g, g2, rfl⟩
  show ch_W X E 6 S' M' 0 0 10 [(0, .ref (S.1 15 11 0)), (1, .int x1), (2, .int x2), (3, .int x3), (4, .ref (S.1 17 34 0))] [.int r, .int 0, .ref (S.1 17 34 0)]
  refine ca_i2l h dL_setVelocity_10 ?_
  refine ca_last h (k := 17) (kd := 34) (i := 0) rfl (g2 17 34 0 h34) (g 17 34 0 (by decide)) (x := 0) (n := 1) (show vp_in (nI 0) 1 from vp_in_nI (by decide) (by decide)) rfl dL_setVelocity_11 ?_
  refine ca_goto (tgt := 23) h dL_setVelocity_12 (by decide) ?_
  refine ca_iconst h dL_setVelocity_23 ik_0 ?_
  exact ca_ireturn h hR rfl dL_setVelocity_24 ⟨rfl, hs', g, g2, rfl⟩
set_option maxHeartbeats 400000 in
theorem c_L_setVelocity_ns {l : Launch} {E : ch_E} {S : ch_S} {μ : ch_M} (hs : ch_Std E S) {x1 x2 x3 : Int32} (hM : ch_CX E l yX11_setVelocity cX11_setVelocity 5 (some FieldType.int) 8 1 6 S μ [.ref (S.1 15 11 0), .int x1, .int x2, .int x3] (ch_FT vy_ns S μ)) : ch_CW E l yL_setVelocity cL_setVelocity 6 (some FieldType.int) [(0, 12, 15, 19), (0, 12, 19, 13)] 9 1 6 S μ [.ref (S.1 15 11 0), .int x1, .int x2, .int x3, .ref (S.1 17 34 0)] (ch_F (some (.int 1)) S μ) := by
  refine ch_enterW rfl rfl ?_
  intro X hl0 h hG hR ht
  subst hl0
  have h : ch_H X E RL cL_setVelocity 6 := h
  show ch_W X E 6 S μ 0 0 0 [(0, .ref (S.1 15 11 0)), (1, .int x1), (2, .int x2), (3, .int x3), (4, .ref (S.1 17 34 0))] []
  refine ca_aload h dL_setVelocity_0 rfl ?_
  refine ca_iconst h dL_setVelocity_2 ik_0 ?_
  refine ca_aload_nr h dL_setVelocity_3 rfl ?_
  refine ca_iload_n h dL_setVelocity_4 rfl ?_
  refine ca_iload_n h dL_setVelocity_5 rfl ?_
  refine ca_iload_n h dL_setVelocity_6 rfl ?_
  refine ca_catch h hG ml_L_38 hM (ci := 11) rfl rfl rfl (hs.1 _ _ _ ⟨rfl, rfl⟩) rfl rfl rfl rfl ⟨Nat.le_of_ble_eq_true rfl, Nat.le_of_ble_eq_true rfl⟩ rfl dL_setVelocity_7 [] ({ startPc := 0, endPc := 12, handlerPc := 15, catchType := 19 } : ExceptionTableEntry) [({ startPc := 0, endPc := 12, handlerPc := 19, catchType := 13 } : ExceptionTableEntry)] (ht.trans rfl) (fun z hz => absurd hz List.not_mem_nil) rfl (ct := 19) rfl (by decide) kw_733 (List.mem_of_getElem? (i := 1) rfl) (hpc := 15) rfl (fun q => ?_)
  refine ca_astore h dL_setVelocity_15 rfl ?_
  refine ca_iconst h dL_setVelocity_17 ik_1 ?_
  exact ca_ireturn h hR rfl dL_setVelocity_18 ⟨rfl, rfl, rfl⟩
set_option maxHeartbeats 400000 in
theorem c_L_setVelocity_ia {l : Launch} {E : ch_E} {S : ch_S} {μ : ch_M} (hs : ch_Std E S) {x1 x2 x3 : Int32} (hM : ch_CX E l yX11_setVelocity cX11_setVelocity 5 (some FieldType.int) 8 1 6 S μ [.ref (S.1 15 11 0), .int x1, .int x2, .int x3] (ch_FT vy_ia S μ)) : ch_CW E l yL_setVelocity cL_setVelocity 6 (some FieldType.int) [(0, 12, 15, 19), (0, 12, 19, 13)] 9 1 6 S μ [.ref (S.1 15 11 0), .int x1, .int x2, .int x3, .ref (S.1 17 34 0)] (ch_F (some (.int 2)) S μ) := by
  refine ch_enterW rfl rfl ?_
  intro X hl0 h hG hR ht
  subst hl0
  have h : ch_H X E RL cL_setVelocity 6 := h
  show ch_W X E 6 S μ 0 0 0 [(0, .ref (S.1 15 11 0)), (1, .int x1), (2, .int x2), (3, .int x3), (4, .ref (S.1 17 34 0))] []
  refine ca_aload h dL_setVelocity_0 rfl ?_
  refine ca_iconst h dL_setVelocity_2 ik_0 ?_
  refine ca_aload_nr h dL_setVelocity_3 rfl ?_
  refine ca_iload_n h dL_setVelocity_4 rfl ?_
  refine ca_iload_n h dL_setVelocity_5 rfl ?_
  refine ca_iload_n h dL_setVelocity_6 rfl ?_
  refine ca_catch h hG ml_L_38 hM (ci := 11) rfl rfl rfl (hs.1 _ _ _ ⟨rfl, rfl⟩) rfl rfl rfl rfl ⟨Nat.le_of_ble_eq_true rfl, Nat.le_of_ble_eq_true rfl⟩ rfl dL_setVelocity_7 [({ startPc := 0, endPc := 12, handlerPc := 15, catchType := 19 } : ExceptionTableEntry)] ({ startPc := 0, endPc := 12, handlerPc := 19, catchType := 13 } : ExceptionTableEntry) [] (ht.trans rfl) (fun z hz => by rw [List.mem_singleton.mp hz]; exact ⟨Nat.succ_ne_zero _, "java/util/NoSuchElementException", kw_733, List.mem_of_getElem? (i := 4) rfl⟩) rfl (ct := 13) rfl (by decide) kw_508 (List.mem_of_getElem? (i := 0) rfl) (hpc := 19) rfl (fun q => ?_)
  refine ca_astore h dL_setVelocity_19 rfl ?_
  refine ca_iconst h dL_setVelocity_21 ik_2 ?_
  exact ca_ireturn h hR rfl dL_setVelocity_22 ⟨rfl, rfl, rfl⟩
set_option maxHeartbeats 400000 in
theorem c_L_call {l : Launch} {E : ch_E} {S : ch_S} {μ : ch_M} (hs : ch_Std E S) (h34 : S.2.1 17 34 0) {x1 x2 : Int32} {r : Int32} {M : ch_M} (hM : ch_C E l yX11_call cX11_call 5 (some FieldType.int) 6 0 0 S μ [.ref (S.1 15 11 0), .int x1, .int x2] (k_Ok E S r M)) : ch_CW E l yL_call cL_call 5 (some FieldType.int) [(0, 10, 13, 19), (0, 10, 17, 13)] 7 0 0 S μ [.ref (S.1 15 11 0), .int x1, .int x2, .ref (S.1 17 34 0)] (k_Ok E S 0 (ch_st M 17 34 0 0 r)) := by
  refine ch_enterW rfl rfl ?_
  intro X hl0 h hG hR ht
  subst hl0
  have h : ch_H X E RL cL_call 5 := h
  show ch_W X E 5 S μ 0 0 0 [(0, .ref (S.1 15 11 0)), (1, .int x1), (2, .int x2), (3, .ref (S.1 17 34 0))] []
  refine ca_aload_nr h dL_call_0 rfl ?_
  refine ca_iconst h dL_call_1 ik_0 ?_
  refine ca_aload_nr h dL_call_2 rfl ?_
  refine ca_iload_n h dL_call_3 rfl ?_
  refine ca_iload_n h dL_call_4 rfl ?_
  refine ca_callV h hG ml_L_41 hM (ci := 11) rfl rfl rfl (hs.1 _ _ _ ⟨rfl, rfl⟩) rfl rfl rfl rfl ⟨Nat.le_of_ble_eq_true rfl, Nat.le_of_ble_eq_true rfl⟩ (Nat.le_of_ble_eq_true rfl) dL_call_5 ?_
  rintro v S' M' ⟨rfl, hs', g, g2, rfl⟩
  show ch_W X E 5 S' M' 0 0 8 [(0, .ref (S.1 15 11 0)), (1, .int x1), (2, .int x2), (3, .ref (S.1 17 34 0))] [.int r, .int 0, .ref (S.1 17 34 0)]
  refine ca_i2l h dL_call_8 ?_
  refine ca_last h (k := 17) (kd := 34) (i := 0) rfl (g2 17 34 0 h34) (g 17 34 0 (by decide)) (x := 0) (n := 1) (show vp_in (nI 0) 1 from vp_in_nI (by decide) (by decide)) rfl dL_call_9 ?_
  refine ca_goto (tgt := 21) h dL_call_10 (by decide) ?_
  refine ca_iconst h dL_call_21 ik_0 ?_
  exact ca_ireturn h hR rfl dL_call_22 ⟨rfl, hs', g, g2, rfl⟩
set_option maxHeartbeats 400000 in
theorem c_L_call_ns {l : Launch} {E : ch_E} {S : ch_S} {μ : ch_M} (hs : ch_Std E S) {x1 x2 : Int32} (hM : ch_CX E l yX11_call cX11_call 5 (some FieldType.int) 8 1 6 S μ [.ref (S.1 15 11 0), .int x1, .int x2] (ch_FT vy_ns S μ)) : ch_CW E l yL_call cL_call 5 (some FieldType.int) [(0, 10, 13, 19), (0, 10, 17, 13)] 9 1 6 S μ [.ref (S.1 15 11 0), .int x1, .int x2, .ref (S.1 17 34 0)] (ch_F (some (.int 1)) S μ) := by
  refine ch_enterW rfl rfl ?_
  intro X hl0 h hG hR ht
  subst hl0
  have h : ch_H X E RL cL_call 5 := h
  show ch_W X E 5 S μ 0 0 0 [(0, .ref (S.1 15 11 0)), (1, .int x1), (2, .int x2), (3, .ref (S.1 17 34 0))] []
  refine ca_aload_nr h dL_call_0 rfl ?_
  refine ca_iconst h dL_call_1 ik_0 ?_
  refine ca_aload_nr h dL_call_2 rfl ?_
  refine ca_iload_n h dL_call_3 rfl ?_
  refine ca_iload_n h dL_call_4 rfl ?_
  refine ca_catch h hG ml_L_41 hM (ci := 11) rfl rfl rfl (hs.1 _ _ _ ⟨rfl, rfl⟩) rfl rfl rfl rfl ⟨Nat.le_of_ble_eq_true rfl, Nat.le_of_ble_eq_true rfl⟩ rfl dL_call_5 [] ({ startPc := 0, endPc := 10, handlerPc := 13, catchType := 19 } : ExceptionTableEntry) [({ startPc := 0, endPc := 10, handlerPc := 17, catchType := 13 } : ExceptionTableEntry)] (ht.trans rfl) (fun z hz => absurd hz List.not_mem_nil) rfl (ct := 19) rfl (by decide) kw_733 (List.mem_of_getElem? (i := 1) rfl) (hpc := 13) rfl (fun q => ?_)
  refine ca_astore h dL_call_13 rfl ?_
  refine ca_iconst h dL_call_15 ik_1 ?_
  exact ca_ireturn h hR rfl dL_call_16 ⟨rfl, rfl, rfl⟩
set_option maxHeartbeats 400000 in
theorem c_L_call_ia {l : Launch} {E : ch_E} {S : ch_S} {μ : ch_M} (hs : ch_Std E S) {x1 x2 : Int32} (hM : ch_CX E l yX11_call cX11_call 5 (some FieldType.int) 8 1 6 S μ [.ref (S.1 15 11 0), .int x1, .int x2] (ch_FT vy_ia S μ)) : ch_CW E l yL_call cL_call 5 (some FieldType.int) [(0, 10, 13, 19), (0, 10, 17, 13)] 9 1 6 S μ [.ref (S.1 15 11 0), .int x1, .int x2, .ref (S.1 17 34 0)] (ch_F (some (.int 2)) S μ) := by
  refine ch_enterW rfl rfl ?_
  intro X hl0 h hG hR ht
  subst hl0
  have h : ch_H X E RL cL_call 5 := h
  show ch_W X E 5 S μ 0 0 0 [(0, .ref (S.1 15 11 0)), (1, .int x1), (2, .int x2), (3, .ref (S.1 17 34 0))] []
  refine ca_aload_nr h dL_call_0 rfl ?_
  refine ca_iconst h dL_call_1 ik_0 ?_
  refine ca_aload_nr h dL_call_2 rfl ?_
  refine ca_iload_n h dL_call_3 rfl ?_
  refine ca_iload_n h dL_call_4 rfl ?_
  refine ca_catch h hG ml_L_41 hM (ci := 11) rfl rfl rfl (hs.1 _ _ _ ⟨rfl, rfl⟩) rfl rfl rfl rfl ⟨Nat.le_of_ble_eq_true rfl, Nat.le_of_ble_eq_true rfl⟩ rfl dL_call_5 [({ startPc := 0, endPc := 10, handlerPc := 13, catchType := 19 } : ExceptionTableEntry)] ({ startPc := 0, endPc := 10, handlerPc := 17, catchType := 13 } : ExceptionTableEntry) [] (ht.trans rfl) (fun z hz => by rw [List.mem_singleton.mp hz]; exact ⟨Nat.succ_ne_zero _, "java/util/NoSuchElementException", kw_733, List.mem_of_getElem? (i := 4) rfl⟩) rfl (ct := 13) rfl (by decide) kw_508 (List.mem_of_getElem? (i := 0) rfl) (hpc := 17) rfl (fun q => ?_)
  refine ca_astore h dL_call_17 rfl ?_
  refine ca_iconst h dL_call_19 ik_2 ?_
  exact ca_ireturn h hR rfl dL_call_20 ⟨rfl, rfl, rfl⟩
set_option maxHeartbeats 400000 in
theorem c_L_hangUp {l : Launch} {E : ch_E} {S : ch_S} {μ : ch_M} (hs : ch_Std E S) (h34 : S.2.1 17 34 0) {x1 : Int32} {r : Int32} {M : ch_M} (hM : ch_C E l yX11_hangUp cX11_hangUp 4 (some FieldType.int) 5 0 0 S μ [.ref (S.1 15 11 0), .int x1] (k_Ok E S r M)) : ch_CW E l yL_hangUp cL_hangUp 4 (some FieldType.int) [(0, 9, 12, 19)] 6 0 0 S μ [.ref (S.1 15 11 0), .int x1, .ref (S.1 17 34 0)] (k_Ok E S 0 (ch_st M 17 34 0 0 r)) := by
  refine ch_enterW rfl rfl ?_
  intro X hl0 h hG hR ht
  subst hl0
  have h : ch_H X E RL cL_hangUp 4 := h
  show ch_W X E 4 S μ 0 0 0 [(0, .ref (S.1 15 11 0)), (1, .int x1), (2, .ref (S.1 17 34 0))] []
  refine ca_aload_nr h dL_hangUp_0 rfl ?_
  refine ca_iconst h dL_hangUp_1 ik_0 ?_
  refine ca_aload_nr h dL_hangUp_2 rfl ?_
  refine ca_iload_n h dL_hangUp_3 rfl ?_
  refine ca_callV h hG ml_L_44 hM (ci := 11) rfl rfl rfl (hs.1 _ _ _ ⟨rfl, rfl⟩) rfl rfl rfl rfl ⟨Nat.le_of_ble_eq_true rfl, Nat.le_of_ble_eq_true rfl⟩ (Nat.le_of_ble_eq_true rfl) dL_hangUp_4 ?_
  rintro v S' M' ⟨rfl, hs', g, g2, rfl⟩
  show ch_W X E 4 S' M' 0 0 7 [(0, .ref (S.1 15 11 0)), (1, .int x1), (2, .ref (S.1 17 34 0))] [.int r, .int 0, .ref (S.1 17 34 0)]
  refine ca_i2l h dL_hangUp_7 ?_
  refine ca_last h (k := 17) (kd := 34) (i := 0) rfl (g2 17 34 0 h34) (g 17 34 0 (by decide)) (x := 0) (n := 1) (show vp_in (nI 0) 1 from vp_in_nI (by decide) (by decide)) rfl dL_hangUp_8 ?_
  refine ca_goto (tgt := 15) h dL_hangUp_9 (by decide) ?_
  refine ca_iconst h dL_hangUp_15 ik_0 ?_
  exact ca_ireturn h hR rfl dL_hangUp_16 ⟨rfl, hs', g, g2, rfl⟩
set_option maxHeartbeats 400000 in
theorem c_L_hangUp_ns {l : Launch} {E : ch_E} {S : ch_S} {μ : ch_M} (hs : ch_Std E S) {x1 : Int32} (hM : ch_CX E l yX11_hangUp cX11_hangUp 4 (some FieldType.int) 8 1 6 S μ [.ref (S.1 15 11 0), .int x1] (ch_FT vy_ns S μ)) : ch_CW E l yL_hangUp cL_hangUp 4 (some FieldType.int) [(0, 9, 12, 19)] 9 1 6 S μ [.ref (S.1 15 11 0), .int x1, .ref (S.1 17 34 0)] (ch_F (some (.int 1)) S μ) := by
  refine ch_enterW rfl rfl ?_
  intro X hl0 h hG hR ht
  subst hl0
  have h : ch_H X E RL cL_hangUp 4 := h
  show ch_W X E 4 S μ 0 0 0 [(0, .ref (S.1 15 11 0)), (1, .int x1), (2, .ref (S.1 17 34 0))] []
  refine ca_aload_nr h dL_hangUp_0 rfl ?_
  refine ca_iconst h dL_hangUp_1 ik_0 ?_
  refine ca_aload_nr h dL_hangUp_2 rfl ?_
  refine ca_iload_n h dL_hangUp_3 rfl ?_
  refine ca_catch h hG ml_L_44 hM (ci := 11) rfl rfl rfl (hs.1 _ _ _ ⟨rfl, rfl⟩) rfl rfl rfl rfl ⟨Nat.le_of_ble_eq_true rfl, Nat.le_of_ble_eq_true rfl⟩ rfl dL_hangUp_4 [] ({ startPc := 0, endPc := 9, handlerPc := 12, catchType := 19 } : ExceptionTableEntry) [] (ht.trans rfl) (fun z hz => absurd hz List.not_mem_nil) rfl (ct := 19) rfl (by decide) kw_733 (List.mem_of_getElem? (i := 1) rfl) (hpc := 12) rfl (fun q => ?_)
  refine ca_astore_n h dL_hangUp_12 rfl ?_
  refine ca_iconst h dL_hangUp_13 ik_1 ?_
  exact ca_ireturn h hR rfl dL_hangUp_14 ⟨rfl, rfl, rfl⟩
set_option maxHeartbeats 400000 in
theorem c_L_setHysteresis {l : Launch} {E : ch_E} {S : ch_S} {μ : ch_M} (hs : ch_Std E S) (h34 : S.2.1 17 34 0) {x1 x2 x3 : Int32} {r : Int32} {M : ch_M} (hM : ch_C E l yX11_setHysteresis cX11_setHysteresis 6 (some FieldType.int) 5 0 0 S μ [.ref (S.1 15 11 0), .int x1, .int x2, .int x3] (k_Ok E S r M)) : ch_CW E l yL_setHysteresis cL_setHysteresis 6 (some FieldType.int) [(0, 12, 15, 19), (0, 12, 19, 13)] 6 0 0 S μ [.ref (S.1 15 11 0), .int x1, .int x2, .int x3, .ref (S.1 17 34 0)] (k_Ok E S 0 (ch_st M 17 34 0 0 r)) := by
  refine ch_enterW rfl rfl ?_
  intro X hl0 h hG hR ht
  subst hl0
  have h : ch_H X E RL cL_setHysteresis 6 := h
  show ch_W X E 6 S μ 0 0 0 [(0, .ref (S.1 15 11 0)), (1, .int x1), (2, .int x2), (3, .int x3), (4, .ref (S.1 17 34 0))] []
  refine ca_aload h dL_setHysteresis_0 rfl ?_
  refine ca_iconst h dL_setHysteresis_2 ik_0 ?_
  refine ca_aload_nr h dL_setHysteresis_3 rfl ?_
  refine ca_iload_n h dL_setHysteresis_4 rfl ?_
  refine ca_iload_n h dL_setHysteresis_5 rfl ?_
  refine ca_iload_n h dL_setHysteresis_6 rfl ?_
  refine ca_callV h hG ml_L_47 hM (ci := 11) rfl rfl rfl (hs.1 _ _ _ ⟨rfl, rfl⟩) rfl rfl rfl rfl ⟨Nat.le_of_ble_eq_true rfl, Nat.le_of_ble_eq_true rfl⟩ (Nat.le_of_ble_eq_true rfl) dL_setHysteresis_7 ?_
  rintro v S' M' ⟨rfl, hs', g, g2, rfl⟩
  show ch_W X E 6 S' M' 0 0 10 [(0, .ref (S.1 15 11 0)), (1, .int x1), (2, .int x2), (3, .int x3), (4, .ref (S.1 17 34 0))] [.int r, .int 0, .ref (S.1 17 34 0)]
  refine ca_i2l h dL_setHysteresis_10 ?_
  refine ca_last h (k := 17) (kd := 34) (i := 0) rfl (g2 17 34 0 h34) (g 17 34 0 (by decide)) (x := 0) (n := 1) (show vp_in (nI 0) 1 from vp_in_nI (by decide) (by decide)) rfl dL_setHysteresis_11 ?_
  refine ca_goto (tgt := 23) h dL_setHysteresis_12 (by decide) ?_
  refine ca_iconst h dL_setHysteresis_23 ik_0 ?_
  exact ca_ireturn h hR rfl dL_setHysteresis_24 ⟨rfl, hs', g, g2, rfl⟩
set_option maxHeartbeats 400000 in
theorem c_L_setHysteresis_ns {l : Launch} {E : ch_E} {S : ch_S} {μ : ch_M} (hs : ch_Std E S) {x1 x2 x3 : Int32} (hM : ch_CX E l yX11_setHysteresis cX11_setHysteresis 6 (some FieldType.int) 8 1 6 S μ [.ref (S.1 15 11 0), .int x1, .int x2, .int x3] (ch_FT vy_ns S μ)) : ch_CW E l yL_setHysteresis cL_setHysteresis 6 (some FieldType.int) [(0, 12, 15, 19), (0, 12, 19, 13)] 9 1 6 S μ [.ref (S.1 15 11 0), .int x1, .int x2, .int x3, .ref (S.1 17 34 0)] (ch_F (some (.int 1)) S μ) := by
  refine ch_enterW rfl rfl ?_
  intro X hl0 h hG hR ht
  subst hl0
  have h : ch_H X E RL cL_setHysteresis 6 := h
  show ch_W X E 6 S μ 0 0 0 [(0, .ref (S.1 15 11 0)), (1, .int x1), (2, .int x2), (3, .int x3), (4, .ref (S.1 17 34 0))] []
  refine ca_aload h dL_setHysteresis_0 rfl ?_
  refine ca_iconst h dL_setHysteresis_2 ik_0 ?_
  refine ca_aload_nr h dL_setHysteresis_3 rfl ?_
  refine ca_iload_n h dL_setHysteresis_4 rfl ?_
  refine ca_iload_n h dL_setHysteresis_5 rfl ?_
  refine ca_iload_n h dL_setHysteresis_6 rfl ?_
  refine ca_catch h hG ml_L_47 hM (ci := 11) rfl rfl rfl (hs.1 _ _ _ ⟨rfl, rfl⟩) rfl rfl rfl rfl ⟨Nat.le_of_ble_eq_true rfl, Nat.le_of_ble_eq_true rfl⟩ rfl dL_setHysteresis_7 [] ({ startPc := 0, endPc := 12, handlerPc := 15, catchType := 19 } : ExceptionTableEntry) [({ startPc := 0, endPc := 12, handlerPc := 19, catchType := 13 } : ExceptionTableEntry)] (ht.trans rfl) (fun z hz => absurd hz List.not_mem_nil) rfl (ct := 19) rfl (by decide) kw_733 (List.mem_of_getElem? (i := 1) rfl) (hpc := 15) rfl (fun q => ?_)
  refine ca_astore h dL_setHysteresis_15 rfl ?_
  refine ca_iconst h dL_setHysteresis_17 ik_1 ?_
  exact ca_ireturn h hR rfl dL_setHysteresis_18 ⟨rfl, rfl, rfl⟩
set_option maxHeartbeats 400000 in
theorem c_L_setHysteresis_ia {l : Launch} {E : ch_E} {S : ch_S} {μ : ch_M} (hs : ch_Std E S) {x1 x2 x3 : Int32} (hM : ch_CX E l yX11_setHysteresis cX11_setHysteresis 6 (some FieldType.int) 8 1 6 S μ [.ref (S.1 15 11 0), .int x1, .int x2, .int x3] (ch_FT vy_ia S μ)) : ch_CW E l yL_setHysteresis cL_setHysteresis 6 (some FieldType.int) [(0, 12, 15, 19), (0, 12, 19, 13)] 9 1 6 S μ [.ref (S.1 15 11 0), .int x1, .int x2, .int x3, .ref (S.1 17 34 0)] (ch_F (some (.int 2)) S μ) := by
  refine ch_enterW rfl rfl ?_
  intro X hl0 h hG hR ht
  subst hl0
  have h : ch_H X E RL cL_setHysteresis 6 := h
  show ch_W X E 6 S μ 0 0 0 [(0, .ref (S.1 15 11 0)), (1, .int x1), (2, .int x2), (3, .int x3), (4, .ref (S.1 17 34 0))] []
  refine ca_aload h dL_setHysteresis_0 rfl ?_
  refine ca_iconst h dL_setHysteresis_2 ik_0 ?_
  refine ca_aload_nr h dL_setHysteresis_3 rfl ?_
  refine ca_iload_n h dL_setHysteresis_4 rfl ?_
  refine ca_iload_n h dL_setHysteresis_5 rfl ?_
  refine ca_iload_n h dL_setHysteresis_6 rfl ?_
  refine ca_catch h hG ml_L_47 hM (ci := 11) rfl rfl rfl (hs.1 _ _ _ ⟨rfl, rfl⟩) rfl rfl rfl rfl ⟨Nat.le_of_ble_eq_true rfl, Nat.le_of_ble_eq_true rfl⟩ rfl dL_setHysteresis_7 [({ startPc := 0, endPc := 12, handlerPc := 15, catchType := 19 } : ExceptionTableEntry)] ({ startPc := 0, endPc := 12, handlerPc := 19, catchType := 13 } : ExceptionTableEntry) [] (ht.trans rfl) (fun z hz => by rw [List.mem_singleton.mp hz]; exact ⟨Nat.succ_ne_zero _, "java/util/NoSuchElementException", kw_733, List.mem_of_getElem? (i := 4) rfl⟩) rfl (ct := 13) rfl (by decide) kw_508 (List.mem_of_getElem? (i := 0) rfl) (hpc := 19) rfl (fun q => ?_)
  refine ca_astore h dL_setHysteresis_19 rfl ?_
  refine ca_iconst h dL_setHysteresis_21 ik_2 ?_
  exact ca_ireturn h hR rfl dL_setHysteresis_22 ⟨rfl, rfl, rfl⟩
set_option maxHeartbeats 400000 in
theorem c_L_run {l : Launch} {E : ch_E} {S : ch_S} {μ : ch_M} (hs : ch_Std E S) (h34 : S.2.1 17 34 0) {x1 : Int32} {r : Int32} {M : ch_M} (hM : ch_C E l yX11_run cX11_run 3 (some FieldType.int) 7 0 0 S μ [.ref (S.1 15 11 0), .int x1] (k_Ok E S r M)) : ch_CW E l yL_run cL_run 4 (some FieldType.int) [(0, 9, 12, 13)] 8 0 0 S μ [.ref (S.1 15 11 0), .int x1, .ref (S.1 17 34 0)] (k_Ok E S 0 (ch_st M 17 34 0 0 r)) := by
  refine ch_enterW rfl rfl ?_
  intro X hl0 h hG hR ht
  subst hl0
  have h : ch_H X E RL cL_run 4 := h
  show ch_W X E 4 S μ 0 0 0 [(0, .ref (S.1 15 11 0)), (1, .int x1), (2, .ref (S.1 17 34 0))] []
  refine ca_aload_nr h dL_run_0 rfl ?_
  refine ca_iconst h dL_run_1 ik_0 ?_
  refine ca_aload_nr h dL_run_2 rfl ?_
  refine ca_iload_n h dL_run_3 rfl ?_
  refine ca_callV h hG ml_L_50 hM (ci := 11) rfl rfl rfl (hs.1 _ _ _ ⟨rfl, rfl⟩) rfl rfl rfl rfl ⟨Nat.le_of_ble_eq_true rfl, Nat.le_of_ble_eq_true rfl⟩ (Nat.le_of_ble_eq_true rfl) dL_run_4 ?_
  rintro v S' M' ⟨rfl, hs', g, g2, rfl⟩
  show ch_W X E 4 S' M' 0 0 7 [(0, .ref (S.1 15 11 0)), (1, .int x1), (2, .ref (S.1 17 34 0))] [.int r, .int 0, .ref (S.1 17 34 0)]
  refine ca_i2l h dL_run_7 ?_
  refine ca_last h (k := 17) (kd := 34) (i := 0) rfl (g2 17 34 0 h34) (g 17 34 0 (by decide)) (x := 0) (n := 1) (show vp_in (nI 0) 1 from vp_in_nI (by decide) (by decide)) rfl dL_run_8 ?_
  refine ca_goto (tgt := 15) h dL_run_9 (by decide) ?_
  refine ca_iconst h dL_run_15 ik_0 ?_
  exact ca_ireturn h hR rfl dL_run_16 ⟨rfl, hs', g, g2, rfl⟩
set_option maxHeartbeats 400000 in
theorem c_L_run_ia {l : Launch} {E : ch_E} {S : ch_S} {μ : ch_M} (hs : ch_Std E S) {x1 : Int32} (hM : ch_CX E l yX11_run cX11_run 3 (some FieldType.int) 8 1 6 S μ [.ref (S.1 15 11 0), .int x1] (ch_FT vy_ia S μ)) : ch_CW E l yL_run cL_run 4 (some FieldType.int) [(0, 9, 12, 13)] 9 1 6 S μ [.ref (S.1 15 11 0), .int x1, .ref (S.1 17 34 0)] (ch_F (some (.int 1)) S μ) := by
  refine ch_enterW rfl rfl ?_
  intro X hl0 h hG hR ht
  subst hl0
  have h : ch_H X E RL cL_run 4 := h
  show ch_W X E 4 S μ 0 0 0 [(0, .ref (S.1 15 11 0)), (1, .int x1), (2, .ref (S.1 17 34 0))] []
  refine ca_aload_nr h dL_run_0 rfl ?_
  refine ca_iconst h dL_run_1 ik_0 ?_
  refine ca_aload_nr h dL_run_2 rfl ?_
  refine ca_iload_n h dL_run_3 rfl ?_
  refine ca_catch h hG ml_L_50 hM (ci := 11) rfl rfl rfl (hs.1 _ _ _ ⟨rfl, rfl⟩) rfl rfl rfl rfl ⟨Nat.le_of_ble_eq_true rfl, Nat.le_of_ble_eq_true rfl⟩ rfl dL_run_4 [] ({ startPc := 0, endPc := 9, handlerPc := 12, catchType := 13 } : ExceptionTableEntry) [] (ht.trans rfl) (fun z hz => absurd hz List.not_mem_nil) rfl (ct := 13) rfl (by decide) kw_508 (List.mem_of_getElem? (i := 0) rfl) (hpc := 12) rfl (fun q => ?_)
  refine ca_astore_n h dL_run_12 rfl ?_
  refine ca_iconst h dL_run_13 ik_1 ?_
  exact ca_ireturn h hR rfl dL_run_14 ⟨rfl, rfl, rfl⟩
set_option maxHeartbeats 400000 in
theorem c_L_x {l : Launch} {E : ch_E} {S : ch_S} {μ : ch_M} (hs : ch_Std E S) (h34 : S.2.1 17 34 0) {x1 : Int32} {r : Int32} {M : ch_M} (hM : ch_C E l yX11_x cX11_x 2 (some FieldType.int) 2 0 0 S μ [.ref (S.1 15 11 0), .int x1] (k_Ok E S r M)) : ch_CW E l yL_x cL_x 4 (some FieldType.int) [(0, 9, 12, 19)] 3 0 0 S μ [.ref (S.1 15 11 0), .int x1, .ref (S.1 17 34 0)] (k_Ok E S 0 (ch_st M 17 34 0 0 r)) := by
  refine ch_enterW rfl rfl ?_
  intro X hl0 h hG hR ht
  subst hl0
  have h : ch_H X E RL cL_x 4 := h
  show ch_W X E 4 S μ 0 0 0 [(0, .ref (S.1 15 11 0)), (1, .int x1), (2, .ref (S.1 17 34 0))] []
  refine ca_aload_nr h dL_x_0 rfl ?_
  refine ca_iconst h dL_x_1 ik_0 ?_
  refine ca_aload_nr h dL_x_2 rfl ?_
  refine ca_iload_n h dL_x_3 rfl ?_
  refine ca_callV h hG ml_L_53 hM (ci := 11) rfl rfl rfl (hs.1 _ _ _ ⟨rfl, rfl⟩) rfl rfl rfl rfl ⟨Nat.le_of_ble_eq_true rfl, Nat.le_of_ble_eq_true rfl⟩ (Nat.le_of_ble_eq_true rfl) dL_x_4 ?_
  rintro v S' M' ⟨rfl, hs', g, g2, rfl⟩
  show ch_W X E 4 S' M' 0 0 7 [(0, .ref (S.1 15 11 0)), (1, .int x1), (2, .ref (S.1 17 34 0))] [.int r, .int 0, .ref (S.1 17 34 0)]
  refine ca_i2l h dL_x_7 ?_
  refine ca_last h (k := 17) (kd := 34) (i := 0) rfl (g2 17 34 0 h34) (g 17 34 0 (by decide)) (x := 0) (n := 1) (show vp_in (nI 0) 1 from vp_in_nI (by decide) (by decide)) rfl dL_x_8 ?_
  refine ca_goto (tgt := 15) h dL_x_9 (by decide) ?_
  refine ca_iconst h dL_x_15 ik_0 ?_
  exact ca_ireturn h hR rfl dL_x_16 ⟨rfl, hs', g, g2, rfl⟩
set_option maxHeartbeats 400000 in
theorem c_L_x_ns {l : Launch} {E : ch_E} {S : ch_S} {μ : ch_M} (hs : ch_Std E S) {x1 : Int32} (hM : ch_CX E l yX11_x cX11_x 2 (some FieldType.int) 8 1 6 S μ [.ref (S.1 15 11 0), .int x1] (ch_FT vy_ns S μ)) : ch_CW E l yL_x cL_x 4 (some FieldType.int) [(0, 9, 12, 19)] 9 1 6 S μ [.ref (S.1 15 11 0), .int x1, .ref (S.1 17 34 0)] (ch_F (some (.int 1)) S μ) := by
  refine ch_enterW rfl rfl ?_
  intro X hl0 h hG hR ht
  subst hl0
  have h : ch_H X E RL cL_x 4 := h
  show ch_W X E 4 S μ 0 0 0 [(0, .ref (S.1 15 11 0)), (1, .int x1), (2, .ref (S.1 17 34 0))] []
  refine ca_aload_nr h dL_x_0 rfl ?_
  refine ca_iconst h dL_x_1 ik_0 ?_
  refine ca_aload_nr h dL_x_2 rfl ?_
  refine ca_iload_n h dL_x_3 rfl ?_
  refine ca_catch h hG ml_L_53 hM (ci := 11) rfl rfl rfl (hs.1 _ _ _ ⟨rfl, rfl⟩) rfl rfl rfl rfl ⟨Nat.le_of_ble_eq_true rfl, Nat.le_of_ble_eq_true rfl⟩ rfl dL_x_4 [] ({ startPc := 0, endPc := 9, handlerPc := 12, catchType := 19 } : ExceptionTableEntry) [] (ht.trans rfl) (fun z hz => absurd hz List.not_mem_nil) rfl (ct := 19) rfl (by decide) kw_733 (List.mem_of_getElem? (i := 1) rfl) (hpc := 12) rfl (fun q => ?_)
  refine ca_astore_n h dL_x_12 rfl ?_
  refine ca_iconst h dL_x_13 ik_1 ?_
  exact ca_ireturn h hR rfl dL_x_14 ⟨rfl, rfl, rfl⟩
set_option maxHeartbeats 400000 in
theorem c_L_y {l : Launch} {E : ch_E} {S : ch_S} {μ : ch_M} (hs : ch_Std E S) (h34 : S.2.1 17 34 0) {x1 : Int32} {r : Int32} {M : ch_M} (hM : ch_C E l yX11_y cX11_y 2 (some FieldType.int) 2 0 0 S μ [.ref (S.1 15 11 0), .int x1] (k_Ok E S r M)) : ch_CW E l yL_y cL_y 4 (some FieldType.int) [(0, 9, 12, 19)] 3 0 0 S μ [.ref (S.1 15 11 0), .int x1, .ref (S.1 17 34 0)] (k_Ok E S 0 (ch_st M 17 34 0 0 r)) := by
  refine ch_enterW rfl rfl ?_
  intro X hl0 h hG hR ht
  subst hl0
  have h : ch_H X E RL cL_y 4 := h
  show ch_W X E 4 S μ 0 0 0 [(0, .ref (S.1 15 11 0)), (1, .int x1), (2, .ref (S.1 17 34 0))] []
  refine ca_aload_nr h dL_y_0 rfl ?_
  refine ca_iconst h dL_y_1 ik_0 ?_
  refine ca_aload_nr h dL_y_2 rfl ?_
  refine ca_iload_n h dL_y_3 rfl ?_
  refine ca_callV h hG ml_L_56 hM (ci := 11) rfl rfl rfl (hs.1 _ _ _ ⟨rfl, rfl⟩) rfl rfl rfl rfl ⟨Nat.le_of_ble_eq_true rfl, Nat.le_of_ble_eq_true rfl⟩ (Nat.le_of_ble_eq_true rfl) dL_y_4 ?_
  rintro v S' M' ⟨rfl, hs', g, g2, rfl⟩
  show ch_W X E 4 S' M' 0 0 7 [(0, .ref (S.1 15 11 0)), (1, .int x1), (2, .ref (S.1 17 34 0))] [.int r, .int 0, .ref (S.1 17 34 0)]
  refine ca_i2l h dL_y_7 ?_
  refine ca_last h (k := 17) (kd := 34) (i := 0) rfl (g2 17 34 0 h34) (g 17 34 0 (by decide)) (x := 0) (n := 1) (show vp_in (nI 0) 1 from vp_in_nI (by decide) (by decide)) rfl dL_y_8 ?_
  refine ca_goto (tgt := 15) h dL_y_9 (by decide) ?_
  refine ca_iconst h dL_y_15 ik_0 ?_
  exact ca_ireturn h hR rfl dL_y_16 ⟨rfl, hs', g, g2, rfl⟩
set_option maxHeartbeats 400000 in
theorem c_L_y_ns {l : Launch} {E : ch_E} {S : ch_S} {μ : ch_M} (hs : ch_Std E S) {x1 : Int32} (hM : ch_CX E l yX11_y cX11_y 2 (some FieldType.int) 8 1 6 S μ [.ref (S.1 15 11 0), .int x1] (ch_FT vy_ns S μ)) : ch_CW E l yL_y cL_y 4 (some FieldType.int) [(0, 9, 12, 19)] 9 1 6 S μ [.ref (S.1 15 11 0), .int x1, .ref (S.1 17 34 0)] (ch_F (some (.int 1)) S μ) := by
  refine ch_enterW rfl rfl ?_
  intro X hl0 h hG hR ht
  subst hl0
  have h : ch_H X E RL cL_y 4 := h
  show ch_W X E 4 S μ 0 0 0 [(0, .ref (S.1 15 11 0)), (1, .int x1), (2, .ref (S.1 17 34 0))] []
  refine ca_aload_nr h dL_y_0 rfl ?_
  refine ca_iconst h dL_y_1 ik_0 ?_
  refine ca_aload_nr h dL_y_2 rfl ?_
  refine ca_iload_n h dL_y_3 rfl ?_
  refine ca_catch h hG ml_L_56 hM (ci := 11) rfl rfl rfl (hs.1 _ _ _ ⟨rfl, rfl⟩) rfl rfl rfl rfl ⟨Nat.le_of_ble_eq_true rfl, Nat.le_of_ble_eq_true rfl⟩ rfl dL_y_4 [] ({ startPc := 0, endPc := 9, handlerPc := 12, catchType := 19 } : ExceptionTableEntry) [] (ht.trans rfl) (fun z hz => absurd hz List.not_mem_nil) rfl (ct := 19) rfl (by decide) kw_733 (List.mem_of_getElem? (i := 1) rfl) (hpc := 12) rfl (fun q => ?_)
  refine ca_astore_n h dL_y_12 rfl ?_
  refine ca_iconst h dL_y_13 ik_1 ?_
  exact ca_ireturn h hR rfl dL_y_14 ⟨rfl, rfl, rfl⟩
set_option maxHeartbeats 400000 in
theorem c_L_state {l : Launch} {E : ch_E} {S : ch_S} {μ : ch_M} (hs : ch_Std E S) (h34 : S.2.1 17 34 0) {x1 : Int32} {r : Int32} {M : ch_M} (hM : ch_C E l yX11_state cX11_state 2 (some FieldType.int) 2 0 0 S μ [.ref (S.1 15 11 0), .int x1] (k_Ok E S r M)) : ch_CW E l yL_state cL_state 4 (some FieldType.int) [(0, 9, 12, 19)] 3 0 0 S μ [.ref (S.1 15 11 0), .int x1, .ref (S.1 17 34 0)] (k_Ok E S 0 (ch_st M 17 34 0 0 r)) := by
  refine ch_enterW rfl rfl ?_
  intro X hl0 h hG hR ht
  subst hl0
  have h : ch_H X E RL cL_state 4 := h
  show ch_W X E 4 S μ 0 0 0 [(0, .ref (S.1 15 11 0)), (1, .int x1), (2, .ref (S.1 17 34 0))] []
  refine ca_aload_nr h dL_state_0 rfl ?_
  refine ca_iconst h dL_state_1 ik_0 ?_
  refine ca_aload_nr h dL_state_2 rfl ?_
  refine ca_iload_n h dL_state_3 rfl ?_
  refine ca_callV h hG ml_L_59 hM (ci := 11) rfl rfl rfl (hs.1 _ _ _ ⟨rfl, rfl⟩) rfl rfl rfl rfl ⟨Nat.le_of_ble_eq_true rfl, Nat.le_of_ble_eq_true rfl⟩ (Nat.le_of_ble_eq_true rfl) dL_state_4 ?_
  rintro v S' M' ⟨rfl, hs', g, g2, rfl⟩
  show ch_W X E 4 S' M' 0 0 7 [(0, .ref (S.1 15 11 0)), (1, .int x1), (2, .ref (S.1 17 34 0))] [.int r, .int 0, .ref (S.1 17 34 0)]
  refine ca_i2l h dL_state_7 ?_
  refine ca_last h (k := 17) (kd := 34) (i := 0) rfl (g2 17 34 0 h34) (g 17 34 0 (by decide)) (x := 0) (n := 1) (show vp_in (nI 0) 1 from vp_in_nI (by decide) (by decide)) rfl dL_state_8 ?_
  refine ca_goto (tgt := 15) h dL_state_9 (by decide) ?_
  refine ca_iconst h dL_state_15 ik_0 ?_
  exact ca_ireturn h hR rfl dL_state_16 ⟨rfl, hs', g, g2, rfl⟩
set_option maxHeartbeats 400000 in
theorem c_L_state_ns {l : Launch} {E : ch_E} {S : ch_S} {μ : ch_M} (hs : ch_Std E S) {x1 : Int32} (hM : ch_CX E l yX11_state cX11_state 2 (some FieldType.int) 8 1 6 S μ [.ref (S.1 15 11 0), .int x1] (ch_FT vy_ns S μ)) : ch_CW E l yL_state cL_state 4 (some FieldType.int) [(0, 9, 12, 19)] 9 1 6 S μ [.ref (S.1 15 11 0), .int x1, .ref (S.1 17 34 0)] (ch_F (some (.int 1)) S μ) := by
  refine ch_enterW rfl rfl ?_
  intro X hl0 h hG hR ht
  subst hl0
  have h : ch_H X E RL cL_state 4 := h
  show ch_W X E 4 S μ 0 0 0 [(0, .ref (S.1 15 11 0)), (1, .int x1), (2, .ref (S.1 17 34 0))] []
  refine ca_aload_nr h dL_state_0 rfl ?_
  refine ca_iconst h dL_state_1 ik_0 ?_
  refine ca_aload_nr h dL_state_2 rfl ?_
  refine ca_iload_n h dL_state_3 rfl ?_
  refine ca_catch h hG ml_L_59 hM (ci := 11) rfl rfl rfl (hs.1 _ _ _ ⟨rfl, rfl⟩) rfl rfl rfl rfl ⟨Nat.le_of_ble_eq_true rfl, Nat.le_of_ble_eq_true rfl⟩ rfl dL_state_4 [] ({ startPc := 0, endPc := 9, handlerPc := 12, catchType := 19 } : ExceptionTableEntry) [] (ht.trans rfl) (fun z hz => absurd hz List.not_mem_nil) rfl (ct := 19) rfl (by decide) kw_733 (List.mem_of_getElem? (i := 1) rfl) (hpc := 12) rfl (fun q => ?_)
  refine ca_astore_n h dL_state_12 rfl ?_
  refine ca_iconst h dL_state_13 ik_1 ?_
  exact ca_ireturn h hR rfl dL_state_14 ⟨rfl, rfl, rfl⟩
set_option maxHeartbeats 400000 in
theorem c_L_servingCell {l : Launch} {E : ch_E} {S : ch_S} {μ : ch_M} (hs : ch_Std E S) (h34 : S.2.1 17 34 0) {x1 : Int32} {r : Int32} {M : ch_M} (hM : ch_C E l yX11_servingCell cX11_servingCell 2 (some FieldType.int) 2 0 0 S μ [.ref (S.1 15 11 0), .int x1] (k_Ok E S r M)) : ch_CW E l yL_servingCell cL_servingCell 4 (some FieldType.int) [(0, 9, 12, 19)] 3 0 0 S μ [.ref (S.1 15 11 0), .int x1, .ref (S.1 17 34 0)] (k_Ok E S 0 (ch_st M 17 34 0 0 r)) := by
  refine ch_enterW rfl rfl ?_
  intro X hl0 h hG hR ht
  subst hl0
  have h : ch_H X E RL cL_servingCell 4 := h
  show ch_W X E 4 S μ 0 0 0 [(0, .ref (S.1 15 11 0)), (1, .int x1), (2, .ref (S.1 17 34 0))] []
  refine ca_aload_nr h dL_servingCell_0 rfl ?_
  refine ca_iconst h dL_servingCell_1 ik_0 ?_
  refine ca_aload_nr h dL_servingCell_2 rfl ?_
  refine ca_iload_n h dL_servingCell_3 rfl ?_
  refine ca_callV h hG ml_L_62 hM (ci := 11) rfl rfl rfl (hs.1 _ _ _ ⟨rfl, rfl⟩) rfl rfl rfl rfl ⟨Nat.le_of_ble_eq_true rfl, Nat.le_of_ble_eq_true rfl⟩ (Nat.le_of_ble_eq_true rfl) dL_servingCell_4 ?_
  rintro v S' M' ⟨rfl, hs', g, g2, rfl⟩
  show ch_W X E 4 S' M' 0 0 7 [(0, .ref (S.1 15 11 0)), (1, .int x1), (2, .ref (S.1 17 34 0))] [.int r, .int 0, .ref (S.1 17 34 0)]
  refine ca_i2l h dL_servingCell_7 ?_
  refine ca_last h (k := 17) (kd := 34) (i := 0) rfl (g2 17 34 0 h34) (g 17 34 0 (by decide)) (x := 0) (n := 1) (show vp_in (nI 0) 1 from vp_in_nI (by decide) (by decide)) rfl dL_servingCell_8 ?_
  refine ca_goto (tgt := 15) h dL_servingCell_9 (by decide) ?_
  refine ca_iconst h dL_servingCell_15 ik_0 ?_
  exact ca_ireturn h hR rfl dL_servingCell_16 ⟨rfl, hs', g, g2, rfl⟩
set_option maxHeartbeats 400000 in
theorem c_L_servingCell_ns {l : Launch} {E : ch_E} {S : ch_S} {μ : ch_M} (hs : ch_Std E S) {x1 : Int32} (hM : ch_CX E l yX11_servingCell cX11_servingCell 2 (some FieldType.int) 8 1 6 S μ [.ref (S.1 15 11 0), .int x1] (ch_FT vy_ns S μ)) : ch_CW E l yL_servingCell cL_servingCell 4 (some FieldType.int) [(0, 9, 12, 19)] 9 1 6 S μ [.ref (S.1 15 11 0), .int x1, .ref (S.1 17 34 0)] (ch_F (some (.int 1)) S μ) := by
  refine ch_enterW rfl rfl ?_
  intro X hl0 h hG hR ht
  subst hl0
  have h : ch_H X E RL cL_servingCell 4 := h
  show ch_W X E 4 S μ 0 0 0 [(0, .ref (S.1 15 11 0)), (1, .int x1), (2, .ref (S.1 17 34 0))] []
  refine ca_aload_nr h dL_servingCell_0 rfl ?_
  refine ca_iconst h dL_servingCell_1 ik_0 ?_
  refine ca_aload_nr h dL_servingCell_2 rfl ?_
  refine ca_iload_n h dL_servingCell_3 rfl ?_
  refine ca_catch h hG ml_L_62 hM (ci := 11) rfl rfl rfl (hs.1 _ _ _ ⟨rfl, rfl⟩) rfl rfl rfl rfl ⟨Nat.le_of_ble_eq_true rfl, Nat.le_of_ble_eq_true rfl⟩ rfl dL_servingCell_4 [] ({ startPc := 0, endPc := 9, handlerPc := 12, catchType := 19 } : ExceptionTableEntry) [] (ht.trans rfl) (fun z hz => absurd hz List.not_mem_nil) rfl (ct := 19) rfl (by decide) kw_733 (List.mem_of_getElem? (i := 1) rfl) (hpc := 12) rfl (fun q => ?_)
  refine ca_astore_n h dL_servingCell_12 rfl ?_
  refine ca_iconst h dL_servingCell_13 ik_1 ?_
  exact ca_ireturn h hR rfl dL_servingCell_14 ⟨rfl, rfl, rfl⟩
set_option maxHeartbeats 400000 in
theorem c_L_remaining {l : Launch} {E : ch_E} {S : ch_S} {μ : ch_M} (hs : ch_Std E S) (h34 : S.2.1 17 34 0) {x1 : Int32} {r : Int32} {M : ch_M} (hM : ch_C E l yX11_remaining cX11_remaining 2 (some FieldType.int) 2 0 0 S μ [.ref (S.1 15 11 0), .int x1] (k_Ok E S r M)) : ch_CW E l yL_remaining cL_remaining 4 (some FieldType.int) [(0, 9, 12, 19)] 3 0 0 S μ [.ref (S.1 15 11 0), .int x1, .ref (S.1 17 34 0)] (k_Ok E S 0 (ch_st M 17 34 0 0 r)) := by
  refine ch_enterW rfl rfl ?_
  intro X hl0 h hG hR ht
  subst hl0
  have h : ch_H X E RL cL_remaining 4 := h
  show ch_W X E 4 S μ 0 0 0 [(0, .ref (S.1 15 11 0)), (1, .int x1), (2, .ref (S.1 17 34 0))] []
  refine ca_aload_nr h dL_remaining_0 rfl ?_
  refine ca_iconst h dL_remaining_1 ik_0 ?_
  refine ca_aload_nr h dL_remaining_2 rfl ?_
  refine ca_iload_n h dL_remaining_3 rfl ?_
  refine ca_callV h hG ml_L_65 hM (ci := 11) rfl rfl rfl (hs.1 _ _ _ ⟨rfl, rfl⟩) rfl rfl rfl rfl ⟨Nat.le_of_ble_eq_true rfl, Nat.le_of_ble_eq_true rfl⟩ (Nat.le_of_ble_eq_true rfl) dL_remaining_4 ?_
  rintro v S' M' ⟨rfl, hs', g, g2, rfl⟩
  show ch_W X E 4 S' M' 0 0 7 [(0, .ref (S.1 15 11 0)), (1, .int x1), (2, .ref (S.1 17 34 0))] [.int r, .int 0, .ref (S.1 17 34 0)]
  refine ca_i2l h dL_remaining_7 ?_
  refine ca_last h (k := 17) (kd := 34) (i := 0) rfl (g2 17 34 0 h34) (g 17 34 0 (by decide)) (x := 0) (n := 1) (show vp_in (nI 0) 1 from vp_in_nI (by decide) (by decide)) rfl dL_remaining_8 ?_
  refine ca_goto (tgt := 15) h dL_remaining_9 (by decide) ?_
  refine ca_iconst h dL_remaining_15 ik_0 ?_
  exact ca_ireturn h hR rfl dL_remaining_16 ⟨rfl, hs', g, g2, rfl⟩
set_option maxHeartbeats 400000 in
theorem c_L_remaining_ns {l : Launch} {E : ch_E} {S : ch_S} {μ : ch_M} (hs : ch_Std E S) {x1 : Int32} (hM : ch_CX E l yX11_remaining cX11_remaining 2 (some FieldType.int) 8 1 6 S μ [.ref (S.1 15 11 0), .int x1] (ch_FT vy_ns S μ)) : ch_CW E l yL_remaining cL_remaining 4 (some FieldType.int) [(0, 9, 12, 19)] 9 1 6 S μ [.ref (S.1 15 11 0), .int x1, .ref (S.1 17 34 0)] (ch_F (some (.int 1)) S μ) := by
  refine ch_enterW rfl rfl ?_
  intro X hl0 h hG hR ht
  subst hl0
  have h : ch_H X E RL cL_remaining 4 := h
  show ch_W X E 4 S μ 0 0 0 [(0, .ref (S.1 15 11 0)), (1, .int x1), (2, .ref (S.1 17 34 0))] []
  refine ca_aload_nr h dL_remaining_0 rfl ?_
  refine ca_iconst h dL_remaining_1 ik_0 ?_
  refine ca_aload_nr h dL_remaining_2 rfl ?_
  refine ca_iload_n h dL_remaining_3 rfl ?_
  refine ca_catch h hG ml_L_65 hM (ci := 11) rfl rfl rfl (hs.1 _ _ _ ⟨rfl, rfl⟩) rfl rfl rfl rfl ⟨Nat.le_of_ble_eq_true rfl, Nat.le_of_ble_eq_true rfl⟩ rfl dL_remaining_4 [] ({ startPc := 0, endPc := 9, handlerPc := 12, catchType := 19 } : ExceptionTableEntry) [] (ht.trans rfl) (fun z hz => absurd hz List.not_mem_nil) rfl (ct := 19) rfl (by decide) kw_733 (List.mem_of_getElem? (i := 1) rfl) (hpc := 12) rfl (fun q => ?_)
  refine ca_astore_n h dL_remaining_12 rfl ?_
  refine ca_iconst h dL_remaining_13 ik_1 ?_
  exact ca_ireturn h hR rfl dL_remaining_14 ⟨rfl, rfl, rfl⟩
set_option maxHeartbeats 400000 in
theorem c_L_requestCell {l : Launch} {E : ch_E} {S : ch_S} {μ : ch_M} (hs : ch_Std E S) (h34 : S.2.1 17 34 0) {x1 : Int32} {r : Int32} {M : ch_M} (hM : ch_C E l yX11_requestCell cX11_requestCell 2 (some FieldType.int) 2 0 0 S μ [.ref (S.1 15 11 0), .int x1] (k_Ok E S r M)) : ch_CW E l yL_requestCell cL_requestCell 4 (some FieldType.int) [(0, 9, 12, 19)] 3 0 0 S μ [.ref (S.1 15 11 0), .int x1, .ref (S.1 17 34 0)] (k_Ok E S 0 (ch_st M 17 34 0 0 r)) := by
  refine ch_enterW rfl rfl ?_
  intro X hl0 h hG hR ht
  subst hl0
  have h : ch_H X E RL cL_requestCell 4 := h
  show ch_W X E 4 S μ 0 0 0 [(0, .ref (S.1 15 11 0)), (1, .int x1), (2, .ref (S.1 17 34 0))] []
  refine ca_aload_nr h dL_requestCell_0 rfl ?_
  refine ca_iconst h dL_requestCell_1 ik_0 ?_
  refine ca_aload_nr h dL_requestCell_2 rfl ?_
  refine ca_iload_n h dL_requestCell_3 rfl ?_
  refine ca_callV h hG ml_L_68 hM (ci := 11) rfl rfl rfl (hs.1 _ _ _ ⟨rfl, rfl⟩) rfl rfl rfl rfl ⟨Nat.le_of_ble_eq_true rfl, Nat.le_of_ble_eq_true rfl⟩ (Nat.le_of_ble_eq_true rfl) dL_requestCell_4 ?_
  rintro v S' M' ⟨rfl, hs', g, g2, rfl⟩
  show ch_W X E 4 S' M' 0 0 7 [(0, .ref (S.1 15 11 0)), (1, .int x1), (2, .ref (S.1 17 34 0))] [.int r, .int 0, .ref (S.1 17 34 0)]
  refine ca_i2l h dL_requestCell_7 ?_
  refine ca_last h (k := 17) (kd := 34) (i := 0) rfl (g2 17 34 0 h34) (g 17 34 0 (by decide)) (x := 0) (n := 1) (show vp_in (nI 0) 1 from vp_in_nI (by decide) (by decide)) rfl dL_requestCell_8 ?_
  refine ca_goto (tgt := 15) h dL_requestCell_9 (by decide) ?_
  refine ca_iconst h dL_requestCell_15 ik_0 ?_
  exact ca_ireturn h hR rfl dL_requestCell_16 ⟨rfl, hs', g, g2, rfl⟩
set_option maxHeartbeats 400000 in
theorem c_L_requestCell_ns {l : Launch} {E : ch_E} {S : ch_S} {μ : ch_M} (hs : ch_Std E S) {x1 : Int32} (hM : ch_CX E l yX11_requestCell cX11_requestCell 2 (some FieldType.int) 8 1 6 S μ [.ref (S.1 15 11 0), .int x1] (ch_FT vy_ns S μ)) : ch_CW E l yL_requestCell cL_requestCell 4 (some FieldType.int) [(0, 9, 12, 19)] 9 1 6 S μ [.ref (S.1 15 11 0), .int x1, .ref (S.1 17 34 0)] (ch_F (some (.int 1)) S μ) := by
  refine ch_enterW rfl rfl ?_
  intro X hl0 h hG hR ht
  subst hl0
  have h : ch_H X E RL cL_requestCell 4 := h
  show ch_W X E 4 S μ 0 0 0 [(0, .ref (S.1 15 11 0)), (1, .int x1), (2, .ref (S.1 17 34 0))] []
  refine ca_aload_nr h dL_requestCell_0 rfl ?_
  refine ca_iconst h dL_requestCell_1 ik_0 ?_
  refine ca_aload_nr h dL_requestCell_2 rfl ?_
  refine ca_iload_n h dL_requestCell_3 rfl ?_
  refine ca_catch h hG ml_L_68 hM (ci := 11) rfl rfl rfl (hs.1 _ _ _ ⟨rfl, rfl⟩) rfl rfl rfl rfl ⟨Nat.le_of_ble_eq_true rfl, Nat.le_of_ble_eq_true rfl⟩ rfl dL_requestCell_4 [] ({ startPc := 0, endPc := 9, handlerPc := 12, catchType := 19 } : ExceptionTableEntry) [] (ht.trans rfl) (fun z hz => absurd hz List.not_mem_nil) rfl (ct := 19) rfl (by decide) kw_733 (List.mem_of_getElem? (i := 1) rfl) (hpc := 12) rfl (fun q => ?_)
  refine ca_astore_n h dL_requestCell_12 rfl ?_
  refine ca_iconst h dL_requestCell_13 ik_1 ?_
  exact ca_ireturn h hR rfl dL_requestCell_14 ⟨rfl, rfl, rfl⟩
set_option maxHeartbeats 400000 in
theorem c_L_average {l : Launch} {E : ch_E} {S : ch_S} {μ : ch_M} (hs : ch_Std E S) (h34 : S.2.1 17 34 0) {x1 x2 : Int32} {r : Int32} {M : ch_M} (hM : ch_C E l yX11_average cX11_average 3 (some FieldType.int) 2 0 0 S μ [.ref (S.1 15 11 0), .int x1, .int x2] (k_Ok E S r M)) : ch_CW E l yL_average cL_average 5 (some FieldType.int) [(0, 10, 13, 19)] 3 0 0 S μ [.ref (S.1 15 11 0), .int x1, .int x2, .ref (S.1 17 34 0)] (k_Ok E S 0 (ch_st M 17 34 0 0 r)) := by
  refine ch_enterW rfl rfl ?_
  intro X hl0 h hG hR ht
  subst hl0
  have h : ch_H X E RL cL_average 5 := h
  show ch_W X E 5 S μ 0 0 0 [(0, .ref (S.1 15 11 0)), (1, .int x1), (2, .int x2), (3, .ref (S.1 17 34 0))] []
  refine ca_aload_nr h dL_average_0 rfl ?_
  refine ca_iconst h dL_average_1 ik_0 ?_
  refine ca_aload_nr h dL_average_2 rfl ?_
  refine ca_iload_n h dL_average_3 rfl ?_
  refine ca_iload_n h dL_average_4 rfl ?_
  refine ca_callV h hG ml_L_71 hM (ci := 11) rfl rfl rfl (hs.1 _ _ _ ⟨rfl, rfl⟩) rfl rfl rfl rfl ⟨Nat.le_of_ble_eq_true rfl, Nat.le_of_ble_eq_true rfl⟩ (Nat.le_of_ble_eq_true rfl) dL_average_5 ?_
  rintro v S' M' ⟨rfl, hs', g, g2, rfl⟩
  show ch_W X E 5 S' M' 0 0 8 [(0, .ref (S.1 15 11 0)), (1, .int x1), (2, .int x2), (3, .ref (S.1 17 34 0))] [.int r, .int 0, .ref (S.1 17 34 0)]
  refine ca_i2l h dL_average_8 ?_
  refine ca_last h (k := 17) (kd := 34) (i := 0) rfl (g2 17 34 0 h34) (g 17 34 0 (by decide)) (x := 0) (n := 1) (show vp_in (nI 0) 1 from vp_in_nI (by decide) (by decide)) rfl dL_average_9 ?_
  refine ca_goto (tgt := 17) h dL_average_10 (by decide) ?_
  refine ca_iconst h dL_average_17 ik_0 ?_
  exact ca_ireturn h hR rfl dL_average_18 ⟨rfl, hs', g, g2, rfl⟩
set_option maxHeartbeats 400000 in
theorem c_L_average_ns {l : Launch} {E : ch_E} {S : ch_S} {μ : ch_M} (hs : ch_Std E S) {x1 x2 : Int32} (hM : ch_CX E l yX11_average cX11_average 3 (some FieldType.int) 8 1 6 S μ [.ref (S.1 15 11 0), .int x1, .int x2] (ch_FT vy_ns S μ)) : ch_CW E l yL_average cL_average 5 (some FieldType.int) [(0, 10, 13, 19)] 9 1 6 S μ [.ref (S.1 15 11 0), .int x1, .int x2, .ref (S.1 17 34 0)] (ch_F (some (.int 1)) S μ) := by
  refine ch_enterW rfl rfl ?_
  intro X hl0 h hG hR ht
  subst hl0
  have h : ch_H X E RL cL_average 5 := h
  show ch_W X E 5 S μ 0 0 0 [(0, .ref (S.1 15 11 0)), (1, .int x1), (2, .int x2), (3, .ref (S.1 17 34 0))] []
  refine ca_aload_nr h dL_average_0 rfl ?_
  refine ca_iconst h dL_average_1 ik_0 ?_
  refine ca_aload_nr h dL_average_2 rfl ?_
  refine ca_iload_n h dL_average_3 rfl ?_
  refine ca_iload_n h dL_average_4 rfl ?_
  refine ca_catch h hG ml_L_71 hM (ci := 11) rfl rfl rfl (hs.1 _ _ _ ⟨rfl, rfl⟩) rfl rfl rfl rfl ⟨Nat.le_of_ble_eq_true rfl, Nat.le_of_ble_eq_true rfl⟩ rfl dL_average_5 [] ({ startPc := 0, endPc := 10, handlerPc := 13, catchType := 19 } : ExceptionTableEntry) [] (ht.trans rfl) (fun z hz => absurd hz List.not_mem_nil) rfl (ct := 19) rfl (by decide) kw_733 (List.mem_of_getElem? (i := 1) rfl) (hpc := 13) rfl (fun q => ?_)
  refine ca_astore h dL_average_13 rfl ?_
  refine ca_iconst h dL_average_15 ik_1 ?_
  exact ca_ireturn h hR rfl dL_average_16 ⟨rfl, rfl, rfl⟩
set_option maxHeartbeats 400000 in
theorem c_L_reportCount {l : Launch} {E : ch_E} {S : ch_S} {μ : ch_M} (hs : ch_Std E S) (h34 : S.2.1 17 34 0) {x1 x2 : Int32} {r : Int32} {M : ch_M} (hM : ch_C E l yX11_reportCount cX11_reportCount 3 (some FieldType.int) 2 0 0 S μ [.ref (S.1 15 11 0), .int x1, .int x2] (k_Ok E S r M)) : ch_CW E l yL_reportCount cL_reportCount 5 (some FieldType.int) [(0, 10, 13, 19)] 3 0 0 S μ [.ref (S.1 15 11 0), .int x1, .int x2, .ref (S.1 17 34 0)] (k_Ok E S 0 (ch_st M 17 34 0 0 r)) := by
  refine ch_enterW rfl rfl ?_
  intro X hl0 h hG hR ht
  subst hl0
  have h : ch_H X E RL cL_reportCount 5 := h
  show ch_W X E 5 S μ 0 0 0 [(0, .ref (S.1 15 11 0)), (1, .int x1), (2, .int x2), (3, .ref (S.1 17 34 0))] []
  refine ca_aload_nr h dL_reportCount_0 rfl ?_
  refine ca_iconst h dL_reportCount_1 ik_0 ?_
  refine ca_aload_nr h dL_reportCount_2 rfl ?_
  refine ca_iload_n h dL_reportCount_3 rfl ?_
  refine ca_iload_n h dL_reportCount_4 rfl ?_
  refine ca_callV h hG ml_L_74 hM (ci := 11) rfl rfl rfl (hs.1 _ _ _ ⟨rfl, rfl⟩) rfl rfl rfl rfl ⟨Nat.le_of_ble_eq_true rfl, Nat.le_of_ble_eq_true rfl⟩ (Nat.le_of_ble_eq_true rfl) dL_reportCount_5 ?_
  rintro v S' M' ⟨rfl, hs', g, g2, rfl⟩
  show ch_W X E 5 S' M' 0 0 8 [(0, .ref (S.1 15 11 0)), (1, .int x1), (2, .int x2), (3, .ref (S.1 17 34 0))] [.int r, .int 0, .ref (S.1 17 34 0)]
  refine ca_i2l h dL_reportCount_8 ?_
  refine ca_last h (k := 17) (kd := 34) (i := 0) rfl (g2 17 34 0 h34) (g 17 34 0 (by decide)) (x := 0) (n := 1) (show vp_in (nI 0) 1 from vp_in_nI (by decide) (by decide)) rfl dL_reportCount_9 ?_
  refine ca_goto (tgt := 17) h dL_reportCount_10 (by decide) ?_
  refine ca_iconst h dL_reportCount_17 ik_0 ?_
  exact ca_ireturn h hR rfl dL_reportCount_18 ⟨rfl, hs', g, g2, rfl⟩
set_option maxHeartbeats 400000 in
theorem c_L_reportCount_ns {l : Launch} {E : ch_E} {S : ch_S} {μ : ch_M} (hs : ch_Std E S) {x1 x2 : Int32} (hM : ch_CX E l yX11_reportCount cX11_reportCount 3 (some FieldType.int) 8 1 6 S μ [.ref (S.1 15 11 0), .int x1, .int x2] (ch_FT vy_ns S μ)) : ch_CW E l yL_reportCount cL_reportCount 5 (some FieldType.int) [(0, 10, 13, 19)] 9 1 6 S μ [.ref (S.1 15 11 0), .int x1, .int x2, .ref (S.1 17 34 0)] (ch_F (some (.int 1)) S μ) := by
  refine ch_enterW rfl rfl ?_
  intro X hl0 h hG hR ht
  subst hl0
  have h : ch_H X E RL cL_reportCount 5 := h
  show ch_W X E 5 S μ 0 0 0 [(0, .ref (S.1 15 11 0)), (1, .int x1), (2, .int x2), (3, .ref (S.1 17 34 0))] []
  refine ca_aload_nr h dL_reportCount_0 rfl ?_
  refine ca_iconst h dL_reportCount_1 ik_0 ?_
  refine ca_aload_nr h dL_reportCount_2 rfl ?_
  refine ca_iload_n h dL_reportCount_3 rfl ?_
  refine ca_iload_n h dL_reportCount_4 rfl ?_
  refine ca_catch h hG ml_L_74 hM (ci := 11) rfl rfl rfl (hs.1 _ _ _ ⟨rfl, rfl⟩) rfl rfl rfl rfl ⟨Nat.le_of_ble_eq_true rfl, Nat.le_of_ble_eq_true rfl⟩ rfl dL_reportCount_5 [] ({ startPc := 0, endPc := 10, handlerPc := 13, catchType := 19 } : ExceptionTableEntry) [] (ht.trans rfl) (fun z hz => absurd hz List.not_mem_nil) rfl (ct := 19) rfl (by decide) kw_733 (List.mem_of_getElem? (i := 1) rfl) (hpc := 13) rfl (fun q => ?_)
  refine ca_astore h dL_reportCount_13 rfl ?_
  refine ca_iconst h dL_reportCount_15 ik_1 ?_
  exact ca_ireturn h hR rfl dL_reportCount_16 ⟨rfl, rfl, rfl⟩
set_option maxHeartbeats 400000 in
theorem c_L_isBarred {l : Launch} {E : ch_E} {S : ch_S} {μ : ch_M} (hs : ch_Std E S) (h34 : S.2.1 17 34 0) {x1 x2 : Int32} {r : Int32} {M : ch_M} (hr : r = 0 ∨ r = 1) (hM : ch_C E l yX11_isBarred cX11_isBarred 3 (some FieldType.boolean) 2 0 0 S μ [.ref (S.1 15 11 0), .int x1, .int x2] (k_Ok E S r M)) : ch_CW E l yL_isBarred cL_isBarred 5 (some FieldType.int) [(0, 17, 20, 19)] 3 0 0 S μ [.ref (S.1 15 11 0), .int x1, .int x2, .ref (S.1 17 34 0)] (k_Ok E S 0 (ch_st M 17 34 0 0 r)) := by
  refine ch_enterW rfl rfl ?_
  intro X hl0 h hG hR ht
  subst hl0
  have h : ch_H X E RL cL_isBarred 5 := h
  show ch_W X E 5 S μ 0 0 0 [(0, .ref (S.1 15 11 0)), (1, .int x1), (2, .int x2), (3, .ref (S.1 17 34 0))] []
  refine ca_aload_nr h dL_isBarred_0 rfl ?_
  refine ca_iconst h dL_isBarred_1 ik_0 ?_
  refine ca_aload_nr h dL_isBarred_2 rfl ?_
  refine ca_iload_n h dL_isBarred_3 rfl ?_
  refine ca_iload_n h dL_isBarred_4 rfl ?_
  refine ca_callV h hG ml_L_77 hM (ci := 11) rfl rfl rfl (hs.1 _ _ _ ⟨rfl, rfl⟩) rfl rfl rfl rfl ⟨Nat.le_of_ble_eq_true rfl, Nat.le_of_ble_eq_true rfl⟩ (Nat.le_of_ble_eq_true rfl) dL_isBarred_5 ?_
  rintro v S' M' ⟨rfl, hs', g, g2, rfl⟩
  show ch_W X E 5 S' M' 0 0 8 [(0, .ref (S.1 15 11 0)), (1, .int x1), (2, .int x2), (3, .ref (S.1 17 34 0))] [.int r, .int 0, .ref (S.1 17 34 0)]
  refine ca_if_eq (tgt := 15) h dL_isBarred_8 (by decide) (fun c8 => ?_) (fun c8 => ?_)
  · subst c8
    refine ca_lconst h dL_isBarred_15 (v := 0) (by decide) ?_
    refine ca_last h (k := 17) (kd := 34) (i := 0) rfl (g2 17 34 0 h34) (g 17 34 0 (by decide)) (x := 0) (n := 1) (show vp_in (nI 0) 1 from vp_in_nI (by decide) (by decide)) (v := 0) rfl dL_isBarred_16 ?_
    refine ca_goto (tgt := 24) h dL_isBarred_17 (by decide) ?_
    refine ca_iconst h dL_isBarred_24 ik_0 ?_
    exact ca_ireturn h hR rfl dL_isBarred_25 ⟨rfl, hs', g, g2, rfl⟩
  · have e1 := hr.resolve_left c8
    subst e1
    refine ca_lconst h dL_isBarred_11 (v := 1) (by decide) ?_
    refine ca_goto (tgt := 16) h dL_isBarred_12 (by decide) ?_
    refine ca_last h (k := 17) (kd := 34) (i := 0) rfl (g2 17 34 0 h34) (g 17 34 0 (by decide)) (x := 0) (n := 1) (show vp_in (nI 0) 1 from vp_in_nI (by decide) (by decide)) (v := 1) rfl dL_isBarred_16 ?_
    refine ca_goto (tgt := 24) h dL_isBarred_17 (by decide) ?_
    refine ca_iconst h dL_isBarred_24 ik_0 ?_
    exact ca_ireturn h hR rfl dL_isBarred_25 ⟨rfl, hs', g, g2, rfl⟩
set_option maxHeartbeats 400000 in
theorem c_L_isBarred_ns {l : Launch} {E : ch_E} {S : ch_S} {μ : ch_M} (hs : ch_Std E S) {x1 x2 : Int32} (hM : ch_CX E l yX11_isBarred cX11_isBarred 3 (some FieldType.boolean) 8 1 6 S μ [.ref (S.1 15 11 0), .int x1, .int x2] (ch_FT vy_ns S μ)) : ch_CW E l yL_isBarred cL_isBarred 5 (some FieldType.int) [(0, 17, 20, 19)] 9 1 6 S μ [.ref (S.1 15 11 0), .int x1, .int x2, .ref (S.1 17 34 0)] (ch_F (some (.int 1)) S μ) := by
  refine ch_enterW rfl rfl ?_
  intro X hl0 h hG hR ht
  subst hl0
  have h : ch_H X E RL cL_isBarred 5 := h
  show ch_W X E 5 S μ 0 0 0 [(0, .ref (S.1 15 11 0)), (1, .int x1), (2, .int x2), (3, .ref (S.1 17 34 0))] []
  refine ca_aload_nr h dL_isBarred_0 rfl ?_
  refine ca_iconst h dL_isBarred_1 ik_0 ?_
  refine ca_aload_nr h dL_isBarred_2 rfl ?_
  refine ca_iload_n h dL_isBarred_3 rfl ?_
  refine ca_iload_n h dL_isBarred_4 rfl ?_
  refine ca_catch h hG ml_L_77 hM (ci := 11) rfl rfl rfl (hs.1 _ _ _ ⟨rfl, rfl⟩) rfl rfl rfl rfl ⟨Nat.le_of_ble_eq_true rfl, Nat.le_of_ble_eq_true rfl⟩ rfl dL_isBarred_5 [] ({ startPc := 0, endPc := 17, handlerPc := 20, catchType := 19 } : ExceptionTableEntry) [] (ht.trans rfl) (fun z hz => absurd hz List.not_mem_nil) rfl (ct := 19) rfl (by decide) kw_733 (List.mem_of_getElem? (i := 1) rfl) (hpc := 20) rfl (fun q => ?_)
  refine ca_astore h dL_isBarred_20 rfl ?_
  refine ca_iconst h dL_isBarred_22 ik_1 ?_
  exact ca_ireturn h hR rfl dL_isBarred_23 ⟨rfl, rfl, rfl⟩
set_option maxHeartbeats 400000 in
theorem c_L_candidate {l : Launch} {E : ch_E} {S : ch_S} {μ : ch_M} (hs : ch_Std E S) (h34 : S.2.1 17 34 0) {x1 x2 : Int32} {r : Int32} {M : ch_M} (hM : ch_C E l yX11_candidate cX11_candidate 3 (some FieldType.int) 5 0 0 S μ [.ref (S.1 15 11 0), .int x1, .int x2] (k_Ok E S r M)) : ch_CW E l yL_candidate cL_candidate 5 (some FieldType.int) [(0, 10, 13, 19)] 6 0 0 S μ [.ref (S.1 15 11 0), .int x1, .int x2, .ref (S.1 17 34 0)] (k_Ok E S 0 (ch_st M 17 34 0 0 r)) := by
  refine ch_enterW rfl rfl ?_
  intro X hl0 h hG hR ht
  subst hl0
  have h : ch_H X E RL cL_candidate 5 := h
  show ch_W X E 5 S μ 0 0 0 [(0, .ref (S.1 15 11 0)), (1, .int x1), (2, .int x2), (3, .ref (S.1 17 34 0))] []
  refine ca_aload_nr h dL_candidate_0 rfl ?_
  refine ca_iconst h dL_candidate_1 ik_0 ?_
  refine ca_aload_nr h dL_candidate_2 rfl ?_
  refine ca_iload_n h dL_candidate_3 rfl ?_
  refine ca_iload_n h dL_candidate_4 rfl ?_
  refine ca_callV h hG ml_L_81 hM (ci := 11) rfl rfl rfl (hs.1 _ _ _ ⟨rfl, rfl⟩) rfl rfl rfl rfl ⟨Nat.le_of_ble_eq_true rfl, Nat.le_of_ble_eq_true rfl⟩ (Nat.le_of_ble_eq_true rfl) dL_candidate_5 ?_
  rintro v S' M' ⟨rfl, hs', g, g2, rfl⟩
  show ch_W X E 5 S' M' 0 0 8 [(0, .ref (S.1 15 11 0)), (1, .int x1), (2, .int x2), (3, .ref (S.1 17 34 0))] [.int r, .int 0, .ref (S.1 17 34 0)]
  refine ca_i2l h dL_candidate_8 ?_
  refine ca_last h (k := 17) (kd := 34) (i := 0) rfl (g2 17 34 0 h34) (g 17 34 0 (by decide)) (x := 0) (n := 1) (show vp_in (nI 0) 1 from vp_in_nI (by decide) (by decide)) rfl dL_candidate_9 ?_
  refine ca_goto (tgt := 17) h dL_candidate_10 (by decide) ?_
  refine ca_iconst h dL_candidate_17 ik_0 ?_
  exact ca_ireturn h hR rfl dL_candidate_18 ⟨rfl, hs', g, g2, rfl⟩
set_option maxHeartbeats 400000 in
theorem c_L_candidate_ns {l : Launch} {E : ch_E} {S : ch_S} {μ : ch_M} (hs : ch_Std E S) {x1 x2 : Int32} (hM : ch_CX E l yX11_candidate cX11_candidate 3 (some FieldType.int) 8 1 6 S μ [.ref (S.1 15 11 0), .int x1, .int x2] (ch_FT vy_ns S μ)) : ch_CW E l yL_candidate cL_candidate 5 (some FieldType.int) [(0, 10, 13, 19)] 9 1 6 S μ [.ref (S.1 15 11 0), .int x1, .int x2, .ref (S.1 17 34 0)] (ch_F (some (.int 1)) S μ) := by
  refine ch_enterW rfl rfl ?_
  intro X hl0 h hG hR ht
  subst hl0
  have h : ch_H X E RL cL_candidate 5 := h
  show ch_W X E 5 S μ 0 0 0 [(0, .ref (S.1 15 11 0)), (1, .int x1), (2, .int x2), (3, .ref (S.1 17 34 0))] []
  refine ca_aload_nr h dL_candidate_0 rfl ?_
  refine ca_iconst h dL_candidate_1 ik_0 ?_
  refine ca_aload_nr h dL_candidate_2 rfl ?_
  refine ca_iload_n h dL_candidate_3 rfl ?_
  refine ca_iload_n h dL_candidate_4 rfl ?_
  refine ca_catch h hG ml_L_81 hM (ci := 11) rfl rfl rfl (hs.1 _ _ _ ⟨rfl, rfl⟩) rfl rfl rfl rfl ⟨Nat.le_of_ble_eq_true rfl, Nat.le_of_ble_eq_true rfl⟩ rfl dL_candidate_5 [] ({ startPc := 0, endPc := 10, handlerPc := 13, catchType := 19 } : ExceptionTableEntry) [] (ht.trans rfl) (fun z hz => absurd hz List.not_mem_nil) rfl (ct := 19) rfl (by decide) kw_733 (List.mem_of_getElem? (i := 1) rfl) (hpc := 13) rfl (fun q => ?_)
  refine ca_astore h dL_candidate_13 rfl ?_
  refine ca_iconst h dL_candidate_15 ik_1 ?_
  exact ca_ireturn h hR rfl dL_candidate_16 ⟨rfl, rfl, rfl⟩
set_option maxHeartbeats 400000 in
theorem c_L_busyChannels {l : Launch} {E : ch_E} {S : ch_S} {μ : ch_M} (hs : ch_Std E S) (h34 : S.2.1 17 34 0) {x1 : Int32} {r : Int32} {M : ch_M} (hM : ch_C E l yX11_busyChannels cX11_busyChannels 2 (some FieldType.int) 3 0 0 S μ [.ref (S.1 15 11 0), .int x1] (k_Ok E S r M)) : ch_CW E l yL_busyChannels cL_busyChannels 4 (some FieldType.int) [(0, 9, 12, 19)] 4 0 0 S μ [.ref (S.1 15 11 0), .int x1, .ref (S.1 17 34 0)] (k_Ok E S 0 (ch_st M 17 34 0 0 r)) := by
  refine ch_enterW rfl rfl ?_
  intro X hl0 h hG hR ht
  subst hl0
  have h : ch_H X E RL cL_busyChannels 4 := h
  show ch_W X E 4 S μ 0 0 0 [(0, .ref (S.1 15 11 0)), (1, .int x1), (2, .ref (S.1 17 34 0))] []
  refine ca_aload_nr h dL_busyChannels_0 rfl ?_
  refine ca_iconst h dL_busyChannels_1 ik_0 ?_
  refine ca_aload_nr h dL_busyChannels_2 rfl ?_
  refine ca_iload_n h dL_busyChannels_3 rfl ?_
  refine ca_callV h hG ml_L_84 hM (ci := 11) rfl rfl rfl (hs.1 _ _ _ ⟨rfl, rfl⟩) rfl rfl rfl rfl ⟨Nat.le_of_ble_eq_true rfl, Nat.le_of_ble_eq_true rfl⟩ (Nat.le_of_ble_eq_true rfl) dL_busyChannels_4 ?_
  rintro v S' M' ⟨rfl, hs', g, g2, rfl⟩
  show ch_W X E 4 S' M' 0 0 7 [(0, .ref (S.1 15 11 0)), (1, .int x1), (2, .ref (S.1 17 34 0))] [.int r, .int 0, .ref (S.1 17 34 0)]
  refine ca_i2l h dL_busyChannels_7 ?_
  refine ca_last h (k := 17) (kd := 34) (i := 0) rfl (g2 17 34 0 h34) (g 17 34 0 (by decide)) (x := 0) (n := 1) (show vp_in (nI 0) 1 from vp_in_nI (by decide) (by decide)) rfl dL_busyChannels_8 ?_
  refine ca_goto (tgt := 15) h dL_busyChannels_9 (by decide) ?_
  refine ca_iconst h dL_busyChannels_15 ik_0 ?_
  exact ca_ireturn h hR rfl dL_busyChannels_16 ⟨rfl, hs', g, g2, rfl⟩
set_option maxHeartbeats 400000 in
theorem c_L_busyChannels_ns {l : Launch} {E : ch_E} {S : ch_S} {μ : ch_M} (hs : ch_Std E S) {x1 : Int32} (hM : ch_CX E l yX11_busyChannels cX11_busyChannels 2 (some FieldType.int) 8 1 6 S μ [.ref (S.1 15 11 0), .int x1] (ch_FT vy_ns S μ)) : ch_CW E l yL_busyChannels cL_busyChannels 4 (some FieldType.int) [(0, 9, 12, 19)] 9 1 6 S μ [.ref (S.1 15 11 0), .int x1, .ref (S.1 17 34 0)] (ch_F (some (.int 1)) S μ) := by
  refine ch_enterW rfl rfl ?_
  intro X hl0 h hG hR ht
  subst hl0
  have h : ch_H X E RL cL_busyChannels 4 := h
  show ch_W X E 4 S μ 0 0 0 [(0, .ref (S.1 15 11 0)), (1, .int x1), (2, .ref (S.1 17 34 0))] []
  refine ca_aload_nr h dL_busyChannels_0 rfl ?_
  refine ca_iconst h dL_busyChannels_1 ik_0 ?_
  refine ca_aload_nr h dL_busyChannels_2 rfl ?_
  refine ca_iload_n h dL_busyChannels_3 rfl ?_
  refine ca_catch h hG ml_L_84 hM (ci := 11) rfl rfl rfl (hs.1 _ _ _ ⟨rfl, rfl⟩) rfl rfl rfl rfl ⟨Nat.le_of_ble_eq_true rfl, Nat.le_of_ble_eq_true rfl⟩ rfl dL_busyChannels_4 [] ({ startPc := 0, endPc := 9, handlerPc := 12, catchType := 19 } : ExceptionTableEntry) [] (ht.trans rfl) (fun z hz => absurd hz List.not_mem_nil) rfl (ct := 19) rfl (by decide) kw_733 (List.mem_of_getElem? (i := 1) rfl) (hpc := 12) rfl (fun q => ?_)
  refine ca_astore_n h dL_busyChannels_12 rfl ?_
  refine ca_iconst h dL_busyChannels_13 ik_1 ?_
  exact ca_ireturn h hR rfl dL_busyChannels_14 ⟨rfl, rfl, rfl⟩
set_option maxHeartbeats 400000 in
theorem c_L_queueLength {l : Launch} {E : ch_E} {S : ch_S} {μ : ch_M} (hs : ch_Std E S) (h34 : S.2.1 17 34 0) {x1 : Int32} {r : Int32} {M : ch_M} (hM : ch_C E l yX11_queueLength cX11_queueLength 2 (some FieldType.int) 3 0 0 S μ [.ref (S.1 15 11 0), .int x1] (k_Ok E S r M)) : ch_CW E l yL_queueLength cL_queueLength 4 (some FieldType.int) [(0, 9, 12, 19)] 4 0 0 S μ [.ref (S.1 15 11 0), .int x1, .ref (S.1 17 34 0)] (k_Ok E S 0 (ch_st M 17 34 0 0 r)) := by
  refine ch_enterW rfl rfl ?_
  intro X hl0 h hG hR ht
  subst hl0
  have h : ch_H X E RL cL_queueLength 4 := h
  show ch_W X E 4 S μ 0 0 0 [(0, .ref (S.1 15 11 0)), (1, .int x1), (2, .ref (S.1 17 34 0))] []
  refine ca_aload_nr h dL_queueLength_0 rfl ?_
  refine ca_iconst h dL_queueLength_1 ik_0 ?_
  refine ca_aload_nr h dL_queueLength_2 rfl ?_
  refine ca_iload_n h dL_queueLength_3 rfl ?_
  refine ca_callV h hG ml_L_87 hM (ci := 11) rfl rfl rfl (hs.1 _ _ _ ⟨rfl, rfl⟩) rfl rfl rfl rfl ⟨Nat.le_of_ble_eq_true rfl, Nat.le_of_ble_eq_true rfl⟩ (Nat.le_of_ble_eq_true rfl) dL_queueLength_4 ?_
  rintro v S' M' ⟨rfl, hs', g, g2, rfl⟩
  show ch_W X E 4 S' M' 0 0 7 [(0, .ref (S.1 15 11 0)), (1, .int x1), (2, .ref (S.1 17 34 0))] [.int r, .int 0, .ref (S.1 17 34 0)]
  refine ca_i2l h dL_queueLength_7 ?_
  refine ca_last h (k := 17) (kd := 34) (i := 0) rfl (g2 17 34 0 h34) (g 17 34 0 (by decide)) (x := 0) (n := 1) (show vp_in (nI 0) 1 from vp_in_nI (by decide) (by decide)) rfl dL_queueLength_8 ?_
  refine ca_goto (tgt := 15) h dL_queueLength_9 (by decide) ?_
  refine ca_iconst h dL_queueLength_15 ik_0 ?_
  exact ca_ireturn h hR rfl dL_queueLength_16 ⟨rfl, hs', g, g2, rfl⟩
set_option maxHeartbeats 400000 in
theorem c_L_queueLength_ns {l : Launch} {E : ch_E} {S : ch_S} {μ : ch_M} (hs : ch_Std E S) {x1 : Int32} (hM : ch_CX E l yX11_queueLength cX11_queueLength 2 (some FieldType.int) 8 1 6 S μ [.ref (S.1 15 11 0), .int x1] (ch_FT vy_ns S μ)) : ch_CW E l yL_queueLength cL_queueLength 4 (some FieldType.int) [(0, 9, 12, 19)] 9 1 6 S μ [.ref (S.1 15 11 0), .int x1, .ref (S.1 17 34 0)] (ch_F (some (.int 1)) S μ) := by
  refine ch_enterW rfl rfl ?_
  intro X hl0 h hG hR ht
  subst hl0
  have h : ch_H X E RL cL_queueLength 4 := h
  show ch_W X E 4 S μ 0 0 0 [(0, .ref (S.1 15 11 0)), (1, .int x1), (2, .ref (S.1 17 34 0))] []
  refine ca_aload_nr h dL_queueLength_0 rfl ?_
  refine ca_iconst h dL_queueLength_1 ik_0 ?_
  refine ca_aload_nr h dL_queueLength_2 rfl ?_
  refine ca_iload_n h dL_queueLength_3 rfl ?_
  refine ca_catch h hG ml_L_87 hM (ci := 11) rfl rfl rfl (hs.1 _ _ _ ⟨rfl, rfl⟩) rfl rfl rfl rfl ⟨Nat.le_of_ble_eq_true rfl, Nat.le_of_ble_eq_true rfl⟩ rfl dL_queueLength_4 [] ({ startPc := 0, endPc := 9, handlerPc := 12, catchType := 19 } : ExceptionTableEntry) [] (ht.trans rfl) (fun z hz => absurd hz List.not_mem_nil) rfl (ct := 19) rfl (by decide) kw_733 (List.mem_of_getElem? (i := 1) rfl) (hpc := 12) rfl (fun q => ?_)
  refine ca_astore_n h dL_queueLength_12 rfl ?_
  refine ca_iconst h dL_queueLength_13 ik_1 ?_
  exact ca_ireturn h hR rfl dL_queueLength_14 ⟨rfl, rfl, rfl⟩
set_option maxHeartbeats 400000 in
theorem c_L_queued {l : Launch} {E : ch_E} {S : ch_S} {μ : ch_M} (hs : ch_Std E S) (h34 : S.2.1 17 34 0) {x1 x2 : Int32} {r : Int32} {M : ch_M} (hM : ch_C E l yX11_queued cX11_queued 3 (some FieldType.int) 5 0 0 S μ [.ref (S.1 15 11 0), .int x1, .int x2] (k_Ok E S r M)) : ch_CW E l yL_queued cL_queued 5 (some FieldType.int) [(0, 10, 13, 19)] 6 0 0 S μ [.ref (S.1 15 11 0), .int x1, .int x2, .ref (S.1 17 34 0)] (k_Ok E S 0 (ch_st M 17 34 0 0 r)) := by
  refine ch_enterW rfl rfl ?_
  intro X hl0 h hG hR ht
  subst hl0
  have h : ch_H X E RL cL_queued 5 := h
  show ch_W X E 5 S μ 0 0 0 [(0, .ref (S.1 15 11 0)), (1, .int x1), (2, .int x2), (3, .ref (S.1 17 34 0))] []
  refine ca_aload_nr h dL_queued_0 rfl ?_
  refine ca_iconst h dL_queued_1 ik_0 ?_
  refine ca_aload_nr h dL_queued_2 rfl ?_
  refine ca_iload_n h dL_queued_3 rfl ?_
  refine ca_iload_n h dL_queued_4 rfl ?_
  refine ca_callV h hG ml_L_90 hM (ci := 11) rfl rfl rfl (hs.1 _ _ _ ⟨rfl, rfl⟩) rfl rfl rfl rfl ⟨Nat.le_of_ble_eq_true rfl, Nat.le_of_ble_eq_true rfl⟩ (Nat.le_of_ble_eq_true rfl) dL_queued_5 ?_
  rintro v S' M' ⟨rfl, hs', g, g2, rfl⟩
  show ch_W X E 5 S' M' 0 0 8 [(0, .ref (S.1 15 11 0)), (1, .int x1), (2, .int x2), (3, .ref (S.1 17 34 0))] [.int r, .int 0, .ref (S.1 17 34 0)]
  refine ca_i2l h dL_queued_8 ?_
  refine ca_last h (k := 17) (kd := 34) (i := 0) rfl (g2 17 34 0 h34) (g 17 34 0 (by decide)) (x := 0) (n := 1) (show vp_in (nI 0) 1 from vp_in_nI (by decide) (by decide)) rfl dL_queued_9 ?_
  refine ca_goto (tgt := 17) h dL_queued_10 (by decide) ?_
  refine ca_iconst h dL_queued_17 ik_0 ?_
  exact ca_ireturn h hR rfl dL_queued_18 ⟨rfl, hs', g, g2, rfl⟩
set_option maxHeartbeats 400000 in
theorem c_L_queued_ns {l : Launch} {E : ch_E} {S : ch_S} {μ : ch_M} (hs : ch_Std E S) {x1 x2 : Int32} (hM : ch_CX E l yX11_queued cX11_queued 3 (some FieldType.int) 8 1 6 S μ [.ref (S.1 15 11 0), .int x1, .int x2] (ch_FT vy_ns S μ)) : ch_CW E l yL_queued cL_queued 5 (some FieldType.int) [(0, 10, 13, 19)] 9 1 6 S μ [.ref (S.1 15 11 0), .int x1, .int x2, .ref (S.1 17 34 0)] (ch_F (some (.int 1)) S μ) := by
  refine ch_enterW rfl rfl ?_
  intro X hl0 h hG hR ht
  subst hl0
  have h : ch_H X E RL cL_queued 5 := h
  show ch_W X E 5 S μ 0 0 0 [(0, .ref (S.1 15 11 0)), (1, .int x1), (2, .int x2), (3, .ref (S.1 17 34 0))] []
  refine ca_aload_nr h dL_queued_0 rfl ?_
  refine ca_iconst h dL_queued_1 ik_0 ?_
  refine ca_aload_nr h dL_queued_2 rfl ?_
  refine ca_iload_n h dL_queued_3 rfl ?_
  refine ca_iload_n h dL_queued_4 rfl ?_
  refine ca_catch h hG ml_L_90 hM (ci := 11) rfl rfl rfl (hs.1 _ _ _ ⟨rfl, rfl⟩) rfl rfl rfl rfl ⟨Nat.le_of_ble_eq_true rfl, Nat.le_of_ble_eq_true rfl⟩ rfl dL_queued_5 [] ({ startPc := 0, endPc := 10, handlerPc := 13, catchType := 19 } : ExceptionTableEntry) [] (ht.trans rfl) (fun z hz => absurd hz List.not_mem_nil) rfl (ct := 19) rfl (by decide) kw_733 (List.mem_of_getElem? (i := 1) rfl) (hpc := 13) rfl (fun q => ?_)
  refine ca_astore h dL_queued_13 rfl ?_
  refine ca_iconst h dL_queued_15 ik_1 ?_
  exact ca_ireturn h hR rfl dL_queued_16 ⟨rfl, rfl, rfl⟩
set_option maxHeartbeats 400000 in
theorem c_L_successes {l : Launch} {E : ch_E} {S : ch_S} {μ : ch_M} (hs : ch_Std E S) (h34 : S.2.1 17 34 0) {x1 x2 : Int32} {r : Int32} {M : ch_M} (hM : ch_C E l yX11_successes cX11_successes 3 (some FieldType.int) 2 0 0 S μ [.ref (S.1 15 11 0), .int x1, .int x2] (k_Ok E S r M)) : ch_CW E l yL_successes cL_successes 5 (some FieldType.int) [(0, 10, 13, 19)] 3 0 0 S μ [.ref (S.1 15 11 0), .int x1, .int x2, .ref (S.1 17 34 0)] (k_Ok E S 0 (ch_st M 17 34 0 0 r)) := by
  refine ch_enterW rfl rfl ?_
  intro X hl0 h hG hR ht
  subst hl0
  have h : ch_H X E RL cL_successes 5 := h
  show ch_W X E 5 S μ 0 0 0 [(0, .ref (S.1 15 11 0)), (1, .int x1), (2, .int x2), (3, .ref (S.1 17 34 0))] []
  refine ca_aload_nr h dL_successes_0 rfl ?_
  refine ca_iconst h dL_successes_1 ik_0 ?_
  refine ca_aload_nr h dL_successes_2 rfl ?_
  refine ca_iload_n h dL_successes_3 rfl ?_
  refine ca_iload_n h dL_successes_4 rfl ?_
  refine ca_callV h hG ml_L_93 hM (ci := 11) rfl rfl rfl (hs.1 _ _ _ ⟨rfl, rfl⟩) rfl rfl rfl rfl ⟨Nat.le_of_ble_eq_true rfl, Nat.le_of_ble_eq_true rfl⟩ (Nat.le_of_ble_eq_true rfl) dL_successes_5 ?_
  rintro v S' M' ⟨rfl, hs', g, g2, rfl⟩
  show ch_W X E 5 S' M' 0 0 8 [(0, .ref (S.1 15 11 0)), (1, .int x1), (2, .int x2), (3, .ref (S.1 17 34 0))] [.int r, .int 0, .ref (S.1 17 34 0)]
  refine ca_i2l h dL_successes_8 ?_
  refine ca_last h (k := 17) (kd := 34) (i := 0) rfl (g2 17 34 0 h34) (g 17 34 0 (by decide)) (x := 0) (n := 1) (show vp_in (nI 0) 1 from vp_in_nI (by decide) (by decide)) rfl dL_successes_9 ?_
  refine ca_goto (tgt := 17) h dL_successes_10 (by decide) ?_
  refine ca_iconst h dL_successes_17 ik_0 ?_
  exact ca_ireturn h hR rfl dL_successes_18 ⟨rfl, hs', g, g2, rfl⟩
set_option maxHeartbeats 400000 in
theorem c_L_successes_ns {l : Launch} {E : ch_E} {S : ch_S} {μ : ch_M} (hs : ch_Std E S) {x1 x2 : Int32} (hM : ch_CX E l yX11_successes cX11_successes 3 (some FieldType.int) 8 1 6 S μ [.ref (S.1 15 11 0), .int x1, .int x2] (ch_FT vy_ns S μ)) : ch_CW E l yL_successes cL_successes 5 (some FieldType.int) [(0, 10, 13, 19)] 9 1 6 S μ [.ref (S.1 15 11 0), .int x1, .int x2, .ref (S.1 17 34 0)] (ch_F (some (.int 1)) S μ) := by
  refine ch_enterW rfl rfl ?_
  intro X hl0 h hG hR ht
  subst hl0
  have h : ch_H X E RL cL_successes 5 := h
  show ch_W X E 5 S μ 0 0 0 [(0, .ref (S.1 15 11 0)), (1, .int x1), (2, .int x2), (3, .ref (S.1 17 34 0))] []
  refine ca_aload_nr h dL_successes_0 rfl ?_
  refine ca_iconst h dL_successes_1 ik_0 ?_
  refine ca_aload_nr h dL_successes_2 rfl ?_
  refine ca_iload_n h dL_successes_3 rfl ?_
  refine ca_iload_n h dL_successes_4 rfl ?_
  refine ca_catch h hG ml_L_93 hM (ci := 11) rfl rfl rfl (hs.1 _ _ _ ⟨rfl, rfl⟩) rfl rfl rfl rfl ⟨Nat.le_of_ble_eq_true rfl, Nat.le_of_ble_eq_true rfl⟩ rfl dL_successes_5 [] ({ startPc := 0, endPc := 10, handlerPc := 13, catchType := 19 } : ExceptionTableEntry) [] (ht.trans rfl) (fun z hz => absurd hz List.not_mem_nil) rfl (ct := 19) rfl (by decide) kw_733 (List.mem_of_getElem? (i := 1) rfl) (hpc := 13) rfl (fun q => ?_)
  refine ca_astore h dL_successes_13 rfl ?_
  refine ca_iconst h dL_successes_15 ik_1 ?_
  exact ca_ireturn h hR rfl dL_successes_16 ⟨rfl, rfl, rfl⟩
set_option maxHeartbeats 400000 in
theorem c_L_refusals {l : Launch} {E : ch_E} {S : ch_S} {μ : ch_M} (hs : ch_Std E S) (h34 : S.2.1 17 34 0) {x1 x2 : Int32} {r : Int32} {M : ch_M} (hM : ch_C E l yX11_refusals cX11_refusals 3 (some FieldType.int) 2 0 0 S μ [.ref (S.1 15 11 0), .int x1, .int x2] (k_Ok E S r M)) : ch_CW E l yL_refusals cL_refusals 5 (some FieldType.int) [(0, 10, 13, 19)] 3 0 0 S μ [.ref (S.1 15 11 0), .int x1, .int x2, .ref (S.1 17 34 0)] (k_Ok E S 0 (ch_st M 17 34 0 0 r)) := by
  refine ch_enterW rfl rfl ?_
  intro X hl0 h hG hR ht
  subst hl0
  have h : ch_H X E RL cL_refusals 5 := h
  show ch_W X E 5 S μ 0 0 0 [(0, .ref (S.1 15 11 0)), (1, .int x1), (2, .int x2), (3, .ref (S.1 17 34 0))] []
  refine ca_aload_nr h dL_refusals_0 rfl ?_
  refine ca_iconst h dL_refusals_1 ik_0 ?_
  refine ca_aload_nr h dL_refusals_2 rfl ?_
  refine ca_iload_n h dL_refusals_3 rfl ?_
  refine ca_iload_n h dL_refusals_4 rfl ?_
  refine ca_callV h hG ml_L_96 hM (ci := 11) rfl rfl rfl (hs.1 _ _ _ ⟨rfl, rfl⟩) rfl rfl rfl rfl ⟨Nat.le_of_ble_eq_true rfl, Nat.le_of_ble_eq_true rfl⟩ (Nat.le_of_ble_eq_true rfl) dL_refusals_5 ?_
  rintro v S' M' ⟨rfl, hs', g, g2, rfl⟩
  show ch_W X E 5 S' M' 0 0 8 [(0, .ref (S.1 15 11 0)), (1, .int x1), (2, .int x2), (3, .ref (S.1 17 34 0))] [.int r, .int 0, .ref (S.1 17 34 0)]
  refine ca_i2l h dL_refusals_8 ?_
  refine ca_last h (k := 17) (kd := 34) (i := 0) rfl (g2 17 34 0 h34) (g 17 34 0 (by decide)) (x := 0) (n := 1) (show vp_in (nI 0) 1 from vp_in_nI (by decide) (by decide)) rfl dL_refusals_9 ?_
  refine ca_goto (tgt := 17) h dL_refusals_10 (by decide) ?_
  refine ca_iconst h dL_refusals_17 ik_0 ?_
  exact ca_ireturn h hR rfl dL_refusals_18 ⟨rfl, hs', g, g2, rfl⟩
set_option maxHeartbeats 400000 in
theorem c_L_refusals_ns {l : Launch} {E : ch_E} {S : ch_S} {μ : ch_M} (hs : ch_Std E S) {x1 x2 : Int32} (hM : ch_CX E l yX11_refusals cX11_refusals 3 (some FieldType.int) 8 1 6 S μ [.ref (S.1 15 11 0), .int x1, .int x2] (ch_FT vy_ns S μ)) : ch_CW E l yL_refusals cL_refusals 5 (some FieldType.int) [(0, 10, 13, 19)] 9 1 6 S μ [.ref (S.1 15 11 0), .int x1, .int x2, .ref (S.1 17 34 0)] (ch_F (some (.int 1)) S μ) := by
  refine ch_enterW rfl rfl ?_
  intro X hl0 h hG hR ht
  subst hl0
  have h : ch_H X E RL cL_refusals 5 := h
  show ch_W X E 5 S μ 0 0 0 [(0, .ref (S.1 15 11 0)), (1, .int x1), (2, .int x2), (3, .ref (S.1 17 34 0))] []
  refine ca_aload_nr h dL_refusals_0 rfl ?_
  refine ca_iconst h dL_refusals_1 ik_0 ?_
  refine ca_aload_nr h dL_refusals_2 rfl ?_
  refine ca_iload_n h dL_refusals_3 rfl ?_
  refine ca_iload_n h dL_refusals_4 rfl ?_
  refine ca_catch h hG ml_L_96 hM (ci := 11) rfl rfl rfl (hs.1 _ _ _ ⟨rfl, rfl⟩) rfl rfl rfl rfl ⟨Nat.le_of_ble_eq_true rfl, Nat.le_of_ble_eq_true rfl⟩ rfl dL_refusals_5 [] ({ startPc := 0, endPc := 10, handlerPc := 13, catchType := 19 } : ExceptionTableEntry) [] (ht.trans rfl) (fun z hz => absurd hz List.not_mem_nil) rfl (ct := 19) rfl (by decide) kw_733 (List.mem_of_getElem? (i := 1) rfl) (hpc := 13) rfl (fun q => ?_)
  refine ca_astore h dL_refusals_13 rfl ?_
  refine ca_iconst h dL_refusals_15 ik_1 ?_
  exact ca_ireturn h hR rfl dL_refusals_16 ⟨rfl, rfl, rfl⟩
set_option maxHeartbeats 400000 in
theorem c_L_congestedTicks {l : Launch} {E : ch_E} {S : ch_S} {μ : ch_M} (hs : ch_Std E S) (h34 : S.2.1 17 34 0) {x1 : Int32} {r : Int32} {M : ch_M} (hM : ch_C E l yX11_congestedTicks cX11_congestedTicks 2 (some FieldType.int) 2 0 0 S μ [.ref (S.1 15 11 0), .int x1] (k_Ok E S r M)) : ch_CW E l yL_congestedTicks cL_congestedTicks 4 (some FieldType.int) [(0, 9, 12, 19)] 3 0 0 S μ [.ref (S.1 15 11 0), .int x1, .ref (S.1 17 34 0)] (k_Ok E S 0 (ch_st M 17 34 0 0 r)) := by
  refine ch_enterW rfl rfl ?_
  intro X hl0 h hG hR ht
  subst hl0
  have h : ch_H X E RL cL_congestedTicks 4 := h
  show ch_W X E 4 S μ 0 0 0 [(0, .ref (S.1 15 11 0)), (1, .int x1), (2, .ref (S.1 17 34 0))] []
  refine ca_aload_nr h dL_congestedTicks_0 rfl ?_
  refine ca_iconst h dL_congestedTicks_1 ik_0 ?_
  refine ca_aload_nr h dL_congestedTicks_2 rfl ?_
  refine ca_iload_n h dL_congestedTicks_3 rfl ?_
  refine ca_callV h hG ml_L_99 hM (ci := 11) rfl rfl rfl (hs.1 _ _ _ ⟨rfl, rfl⟩) rfl rfl rfl rfl ⟨Nat.le_of_ble_eq_true rfl, Nat.le_of_ble_eq_true rfl⟩ (Nat.le_of_ble_eq_true rfl) dL_congestedTicks_4 ?_
  rintro v S' M' ⟨rfl, hs', g, g2, rfl⟩
  show ch_W X E 4 S' M' 0 0 7 [(0, .ref (S.1 15 11 0)), (1, .int x1), (2, .ref (S.1 17 34 0))] [.int r, .int 0, .ref (S.1 17 34 0)]
  refine ca_i2l h dL_congestedTicks_7 ?_
  refine ca_last h (k := 17) (kd := 34) (i := 0) rfl (g2 17 34 0 h34) (g 17 34 0 (by decide)) (x := 0) (n := 1) (show vp_in (nI 0) 1 from vp_in_nI (by decide) (by decide)) rfl dL_congestedTicks_8 ?_
  refine ca_goto (tgt := 15) h dL_congestedTicks_9 (by decide) ?_
  refine ca_iconst h dL_congestedTicks_15 ik_0 ?_
  exact ca_ireturn h hR rfl dL_congestedTicks_16 ⟨rfl, hs', g, g2, rfl⟩
set_option maxHeartbeats 400000 in
theorem c_L_congestedTicks_ns {l : Launch} {E : ch_E} {S : ch_S} {μ : ch_M} (hs : ch_Std E S) {x1 : Int32} (hM : ch_CX E l yX11_congestedTicks cX11_congestedTicks 2 (some FieldType.int) 8 1 6 S μ [.ref (S.1 15 11 0), .int x1] (ch_FT vy_ns S μ)) : ch_CW E l yL_congestedTicks cL_congestedTicks 4 (some FieldType.int) [(0, 9, 12, 19)] 9 1 6 S μ [.ref (S.1 15 11 0), .int x1, .ref (S.1 17 34 0)] (ch_F (some (.int 1)) S μ) := by
  refine ch_enterW rfl rfl ?_
  intro X hl0 h hG hR ht
  subst hl0
  have h : ch_H X E RL cL_congestedTicks 4 := h
  show ch_W X E 4 S μ 0 0 0 [(0, .ref (S.1 15 11 0)), (1, .int x1), (2, .ref (S.1 17 34 0))] []
  refine ca_aload_nr h dL_congestedTicks_0 rfl ?_
  refine ca_iconst h dL_congestedTicks_1 ik_0 ?_
  refine ca_aload_nr h dL_congestedTicks_2 rfl ?_
  refine ca_iload_n h dL_congestedTicks_3 rfl ?_
  refine ca_catch h hG ml_L_99 hM (ci := 11) rfl rfl rfl (hs.1 _ _ _ ⟨rfl, rfl⟩) rfl rfl rfl rfl ⟨Nat.le_of_ble_eq_true rfl, Nat.le_of_ble_eq_true rfl⟩ rfl dL_congestedTicks_4 [] ({ startPc := 0, endPc := 9, handlerPc := 12, catchType := 19 } : ExceptionTableEntry) [] (ht.trans rfl) (fun z hz => absurd hz List.not_mem_nil) rfl (ct := 19) rfl (by decide) kw_733 (List.mem_of_getElem? (i := 1) rfl) (hpc := 12) rfl (fun q => ?_)
  refine ca_astore_n h dL_congestedTicks_12 rfl ?_
  refine ca_iconst h dL_congestedTicks_13 ik_1 ?_
  exact ca_ireturn h hR rfl dL_congestedTicks_14 ⟨rfl, rfl, rfl⟩
set_option maxHeartbeats 400000 in
theorem c_L_forecastCell {l : Launch} {E : ch_E} {S : ch_S} {μ : ch_M} (hs : ch_Std E S) (h34 : S.2.1 17 34 0) {x1 x2 : Int32} {r : Int32} {M : ch_M} (hM : ch_C E l yX11_forecastCell cX11_forecastCell 3 (some FieldType.int) 7 0 0 S μ [.ref (S.1 15 11 0), .int x1, .int x2] (k_Ok E S r M)) : ch_CW E l yL_forecastCell cL_forecastCell 5 (some FieldType.int) [(0, 10, 13, 19), (0, 10, 17, 13)] 8 0 0 S μ [.ref (S.1 15 11 0), .int x1, .int x2, .ref (S.1 17 34 0)] (k_Ok E S 0 (ch_st M 17 34 0 0 r)) := by
  refine ch_enterW rfl rfl ?_
  intro X hl0 h hG hR ht
  subst hl0
  have h : ch_H X E RL cL_forecastCell 5 := h
  show ch_W X E 5 S μ 0 0 0 [(0, .ref (S.1 15 11 0)), (1, .int x1), (2, .int x2), (3, .ref (S.1 17 34 0))] []
  refine ca_aload_nr h dL_forecastCell_0 rfl ?_
  refine ca_iconst h dL_forecastCell_1 ik_0 ?_
  refine ca_aload_nr h dL_forecastCell_2 rfl ?_
  refine ca_iload_n h dL_forecastCell_3 rfl ?_
  refine ca_iload_n h dL_forecastCell_4 rfl ?_
  refine ca_callV h hG ml_L_102 hM (ci := 11) rfl rfl rfl (hs.1 _ _ _ ⟨rfl, rfl⟩) rfl rfl rfl rfl ⟨Nat.le_of_ble_eq_true rfl, Nat.le_of_ble_eq_true rfl⟩ (Nat.le_of_ble_eq_true rfl) dL_forecastCell_5 ?_
  rintro v S' M' ⟨rfl, hs', g, g2, rfl⟩
  show ch_W X E 5 S' M' 0 0 8 [(0, .ref (S.1 15 11 0)), (1, .int x1), (2, .int x2), (3, .ref (S.1 17 34 0))] [.int r, .int 0, .ref (S.1 17 34 0)]
  refine ca_i2l h dL_forecastCell_8 ?_
  refine ca_last h (k := 17) (kd := 34) (i := 0) rfl (g2 17 34 0 h34) (g 17 34 0 (by decide)) (x := 0) (n := 1) (show vp_in (nI 0) 1 from vp_in_nI (by decide) (by decide)) rfl dL_forecastCell_9 ?_
  refine ca_goto (tgt := 21) h dL_forecastCell_10 (by decide) ?_
  refine ca_iconst h dL_forecastCell_21 ik_0 ?_
  exact ca_ireturn h hR rfl dL_forecastCell_22 ⟨rfl, hs', g, g2, rfl⟩
set_option maxHeartbeats 400000 in
theorem c_L_forecastCell_ns {l : Launch} {E : ch_E} {S : ch_S} {μ : ch_M} (hs : ch_Std E S) {x1 x2 : Int32} (hM : ch_CX E l yX11_forecastCell cX11_forecastCell 3 (some FieldType.int) 8 1 6 S μ [.ref (S.1 15 11 0), .int x1, .int x2] (ch_FT vy_ns S μ)) : ch_CW E l yL_forecastCell cL_forecastCell 5 (some FieldType.int) [(0, 10, 13, 19), (0, 10, 17, 13)] 9 1 6 S μ [.ref (S.1 15 11 0), .int x1, .int x2, .ref (S.1 17 34 0)] (ch_F (some (.int 1)) S μ) := by
  refine ch_enterW rfl rfl ?_
  intro X hl0 h hG hR ht
  subst hl0
  have h : ch_H X E RL cL_forecastCell 5 := h
  show ch_W X E 5 S μ 0 0 0 [(0, .ref (S.1 15 11 0)), (1, .int x1), (2, .int x2), (3, .ref (S.1 17 34 0))] []
  refine ca_aload_nr h dL_forecastCell_0 rfl ?_
  refine ca_iconst h dL_forecastCell_1 ik_0 ?_
  refine ca_aload_nr h dL_forecastCell_2 rfl ?_
  refine ca_iload_n h dL_forecastCell_3 rfl ?_
  refine ca_iload_n h dL_forecastCell_4 rfl ?_
  refine ca_catch h hG ml_L_102 hM (ci := 11) rfl rfl rfl (hs.1 _ _ _ ⟨rfl, rfl⟩) rfl rfl rfl rfl ⟨Nat.le_of_ble_eq_true rfl, Nat.le_of_ble_eq_true rfl⟩ rfl dL_forecastCell_5 [] ({ startPc := 0, endPc := 10, handlerPc := 13, catchType := 19 } : ExceptionTableEntry) [({ startPc := 0, endPc := 10, handlerPc := 17, catchType := 13 } : ExceptionTableEntry)] (ht.trans rfl) (fun z hz => absurd hz List.not_mem_nil) rfl (ct := 19) rfl (by decide) kw_733 (List.mem_of_getElem? (i := 1) rfl) (hpc := 13) rfl (fun q => ?_)
  refine ca_astore h dL_forecastCell_13 rfl ?_
  refine ca_iconst h dL_forecastCell_15 ik_1 ?_
  exact ca_ireturn h hR rfl dL_forecastCell_16 ⟨rfl, rfl, rfl⟩
set_option maxHeartbeats 400000 in
theorem c_L_forecastCell_ia {l : Launch} {E : ch_E} {S : ch_S} {μ : ch_M} (hs : ch_Std E S) {x1 x2 : Int32} (hM : ch_CX E l yX11_forecastCell cX11_forecastCell 3 (some FieldType.int) 8 1 6 S μ [.ref (S.1 15 11 0), .int x1, .int x2] (ch_FT vy_ia S μ)) : ch_CW E l yL_forecastCell cL_forecastCell 5 (some FieldType.int) [(0, 10, 13, 19), (0, 10, 17, 13)] 9 1 6 S μ [.ref (S.1 15 11 0), .int x1, .int x2, .ref (S.1 17 34 0)] (ch_F (some (.int 2)) S μ) := by
  refine ch_enterW rfl rfl ?_
  intro X hl0 h hG hR ht
  subst hl0
  have h : ch_H X E RL cL_forecastCell 5 := h
  show ch_W X E 5 S μ 0 0 0 [(0, .ref (S.1 15 11 0)), (1, .int x1), (2, .int x2), (3, .ref (S.1 17 34 0))] []
  refine ca_aload_nr h dL_forecastCell_0 rfl ?_
  refine ca_iconst h dL_forecastCell_1 ik_0 ?_
  refine ca_aload_nr h dL_forecastCell_2 rfl ?_
  refine ca_iload_n h dL_forecastCell_3 rfl ?_
  refine ca_iload_n h dL_forecastCell_4 rfl ?_
  refine ca_catch h hG ml_L_102 hM (ci := 11) rfl rfl rfl (hs.1 _ _ _ ⟨rfl, rfl⟩) rfl rfl rfl rfl ⟨Nat.le_of_ble_eq_true rfl, Nat.le_of_ble_eq_true rfl⟩ rfl dL_forecastCell_5 [({ startPc := 0, endPc := 10, handlerPc := 13, catchType := 19 } : ExceptionTableEntry)] ({ startPc := 0, endPc := 10, handlerPc := 17, catchType := 13 } : ExceptionTableEntry) [] (ht.trans rfl) (fun z hz => by rw [List.mem_singleton.mp hz]; exact ⟨Nat.succ_ne_zero _, "java/util/NoSuchElementException", kw_733, List.mem_of_getElem? (i := 4) rfl⟩) rfl (ct := 13) rfl (by decide) kw_508 (List.mem_of_getElem? (i := 0) rfl) (hpc := 17) rfl (fun q => ?_)
  refine ca_astore h dL_forecastCell_17 rfl ?_
  refine ca_iconst h dL_forecastCell_19 ik_2 ?_
  exact ca_ireturn h hR rfl dL_forecastCell_20 ⟨rfl, rfl, rfl⟩
set_option maxHeartbeats 400000 in
theorem c_L_bestHysteresis {l : Launch} {E : ch_E} {S : ch_S} {μ : ch_M} (hs : ch_Std E S) (h34 : S.2.1 17 34 0) {x1 x2 x3 : Int32} {r : Int32} {M : ch_M} (hM : ch_C E l yX11_bestHysteresis cX11_bestHysteresis 10 (some FieldType.int) 7 0 0 S μ [.ref (S.1 15 11 0), .int x1, .int x2, .int x3] (k_Ok E S r M)) : ch_CW E l yL_bestHysteresis cL_bestHysteresis 6 (some FieldType.int) [(0, 12, 15, 19), (0, 12, 19, 13)] 8 0 0 S μ [.ref (S.1 15 11 0), .int x1, .int x2, .int x3, .ref (S.1 17 34 0)] (k_Ok E S 0 (ch_st M 17 34 0 0 r)) := by
  refine ch_enterW rfl rfl ?_
  intro X hl0 h hG hR ht
  subst hl0
  have h : ch_H X E RL cL_bestHysteresis 6 := h
  show ch_W X E 6 S μ 0 0 0 [(0, .ref (S.1 15 11 0)), (1, .int x1), (2, .int x2), (3, .int x3), (4, .ref (S.1 17 34 0))] []
  refine ca_aload h dL_bestHysteresis_0 rfl ?_
  refine ca_iconst h dL_bestHysteresis_2 ik_0 ?_
  refine ca_aload_nr h dL_bestHysteresis_3 rfl ?_
  refine ca_iload_n h dL_bestHysteresis_4 rfl ?_
  refine ca_iload_n h dL_bestHysteresis_5 rfl ?_
  refine ca_iload_n h dL_bestHysteresis_6 rfl ?_
  refine ca_callV h hG ml_L_105 hM (ci := 11) rfl rfl rfl (hs.1 _ _ _ ⟨rfl, rfl⟩) rfl rfl rfl rfl ⟨Nat.le_of_ble_eq_true rfl, Nat.le_of_ble_eq_true rfl⟩ (Nat.le_of_ble_eq_true rfl) dL_bestHysteresis_7 ?_
  rintro v S' M' ⟨rfl, hs', g, g2, rfl⟩
  show ch_W X E 6 S' M' 0 0 10 [(0, .ref (S.1 15 11 0)), (1, .int x1), (2, .int x2), (3, .int x3), (4, .ref (S.1 17 34 0))] [.int r, .int 0, .ref (S.1 17 34 0)]
  refine ca_i2l h dL_bestHysteresis_10 ?_
  refine ca_last h (k := 17) (kd := 34) (i := 0) rfl (g2 17 34 0 h34) (g 17 34 0 (by decide)) (x := 0) (n := 1) (show vp_in (nI 0) 1 from vp_in_nI (by decide) (by decide)) rfl dL_bestHysteresis_11 ?_
  refine ca_goto (tgt := 23) h dL_bestHysteresis_12 (by decide) ?_
  refine ca_iconst h dL_bestHysteresis_23 ik_0 ?_
  exact ca_ireturn h hR rfl dL_bestHysteresis_24 ⟨rfl, hs', g, g2, rfl⟩
set_option maxHeartbeats 400000 in
theorem c_L_bestHysteresis_ns {l : Launch} {E : ch_E} {S : ch_S} {μ : ch_M} (hs : ch_Std E S) {x1 x2 x3 : Int32} (hM : ch_CX E l yX11_bestHysteresis cX11_bestHysteresis 10 (some FieldType.int) 8 1 6 S μ [.ref (S.1 15 11 0), .int x1, .int x2, .int x3] (ch_FT vy_ns S μ)) : ch_CW E l yL_bestHysteresis cL_bestHysteresis 6 (some FieldType.int) [(0, 12, 15, 19), (0, 12, 19, 13)] 9 1 6 S μ [.ref (S.1 15 11 0), .int x1, .int x2, .int x3, .ref (S.1 17 34 0)] (ch_F (some (.int 1)) S μ) := by
  refine ch_enterW rfl rfl ?_
  intro X hl0 h hG hR ht
  subst hl0
  have h : ch_H X E RL cL_bestHysteresis 6 := h
  show ch_W X E 6 S μ 0 0 0 [(0, .ref (S.1 15 11 0)), (1, .int x1), (2, .int x2), (3, .int x3), (4, .ref (S.1 17 34 0))] []
  refine ca_aload h dL_bestHysteresis_0 rfl ?_
  refine ca_iconst h dL_bestHysteresis_2 ik_0 ?_
  refine ca_aload_nr h dL_bestHysteresis_3 rfl ?_
  refine ca_iload_n h dL_bestHysteresis_4 rfl ?_
  refine ca_iload_n h dL_bestHysteresis_5 rfl ?_
  refine ca_iload_n h dL_bestHysteresis_6 rfl ?_
  refine ca_catch h hG ml_L_105 hM (ci := 11) rfl rfl rfl (hs.1 _ _ _ ⟨rfl, rfl⟩) rfl rfl rfl rfl ⟨Nat.le_of_ble_eq_true rfl, Nat.le_of_ble_eq_true rfl⟩ rfl dL_bestHysteresis_7 [] ({ startPc := 0, endPc := 12, handlerPc := 15, catchType := 19 } : ExceptionTableEntry) [({ startPc := 0, endPc := 12, handlerPc := 19, catchType := 13 } : ExceptionTableEntry)] (ht.trans rfl) (fun z hz => absurd hz List.not_mem_nil) rfl (ct := 19) rfl (by decide) kw_733 (List.mem_of_getElem? (i := 1) rfl) (hpc := 15) rfl (fun q => ?_)
  refine ca_astore h dL_bestHysteresis_15 rfl ?_
  refine ca_iconst h dL_bestHysteresis_17 ik_1 ?_
  exact ca_ireturn h hR rfl dL_bestHysteresis_18 ⟨rfl, rfl, rfl⟩
set_option maxHeartbeats 400000 in
theorem c_L_bestHysteresis_ia {l : Launch} {E : ch_E} {S : ch_S} {μ : ch_M} (hs : ch_Std E S) {x1 x2 x3 : Int32} (hM : ch_CX E l yX11_bestHysteresis cX11_bestHysteresis 10 (some FieldType.int) 8 1 6 S μ [.ref (S.1 15 11 0), .int x1, .int x2, .int x3] (ch_FT vy_ia S μ)) : ch_CW E l yL_bestHysteresis cL_bestHysteresis 6 (some FieldType.int) [(0, 12, 15, 19), (0, 12, 19, 13)] 9 1 6 S μ [.ref (S.1 15 11 0), .int x1, .int x2, .int x3, .ref (S.1 17 34 0)] (ch_F (some (.int 2)) S μ) := by
  refine ch_enterW rfl rfl ?_
  intro X hl0 h hG hR ht
  subst hl0
  have h : ch_H X E RL cL_bestHysteresis 6 := h
  show ch_W X E 6 S μ 0 0 0 [(0, .ref (S.1 15 11 0)), (1, .int x1), (2, .int x2), (3, .int x3), (4, .ref (S.1 17 34 0))] []
  refine ca_aload h dL_bestHysteresis_0 rfl ?_
  refine ca_iconst h dL_bestHysteresis_2 ik_0 ?_
  refine ca_aload_nr h dL_bestHysteresis_3 rfl ?_
  refine ca_iload_n h dL_bestHysteresis_4 rfl ?_
  refine ca_iload_n h dL_bestHysteresis_5 rfl ?_
  refine ca_iload_n h dL_bestHysteresis_6 rfl ?_
  refine ca_catch h hG ml_L_105 hM (ci := 11) rfl rfl rfl (hs.1 _ _ _ ⟨rfl, rfl⟩) rfl rfl rfl rfl ⟨Nat.le_of_ble_eq_true rfl, Nat.le_of_ble_eq_true rfl⟩ rfl dL_bestHysteresis_7 [({ startPc := 0, endPc := 12, handlerPc := 15, catchType := 19 } : ExceptionTableEntry)] ({ startPc := 0, endPc := 12, handlerPc := 19, catchType := 13 } : ExceptionTableEntry) [] (ht.trans rfl) (fun z hz => by rw [List.mem_singleton.mp hz]; exact ⟨Nat.succ_ne_zero _, "java/util/NoSuchElementException", kw_733, List.mem_of_getElem? (i := 4) rfl⟩) rfl (ct := 13) rfl (by decide) kw_508 (List.mem_of_getElem? (i := 0) rfl) (hpc := 19) rfl (fun q => ?_)
  refine ca_astore h dL_bestHysteresis_19 rfl ?_
  refine ca_iconst h dL_bestHysteresis_21 ik_2 ?_
  exact ca_ireturn h hR rfl dL_bestHysteresis_22 ⟨rfl, rfl, rfl⟩
set_option maxHeartbeats 400000 in
theorem c_L_query {l : Launch} {E : ch_E} {S : ch_S} {μ : ch_M} (hs : ch_Std E S) (h34 : S.2.1 17 34 0) {x1 : Int32} {r : Int32} {M : ch_M} (hM : ch_C E l yX11_query cX11_query 3 (some FieldType.int) 30 1 2 S μ [.ref (S.1 15 11 0), .int x1] (k_Ok E S r M)) : ch_CW E l yL_query cL_query 4 (some FieldType.int) [(0, 9, 12, 13)] 31 1 2 S μ [.ref (S.1 15 11 0), .int x1, .ref (S.1 17 34 0)] (k_Ok E S 0 (ch_st M 17 34 0 0 r)) := by
  refine ch_enterW rfl rfl ?_
  intro X hl0 h hG hR ht
  subst hl0
  have h : ch_H X E RL cL_query 4 := h
  show ch_W X E 4 S μ 0 0 0 [(0, .ref (S.1 15 11 0)), (1, .int x1), (2, .ref (S.1 17 34 0))] []
  refine ca_aload_nr h dL_query_0 rfl ?_
  refine ca_iconst h dL_query_1 ik_0 ?_
  refine ca_aload_nr h dL_query_2 rfl ?_
  refine ca_iload_n h dL_query_3 rfl ?_
  refine ca_callV h hG ml_L_108 hM (ci := 11) rfl rfl rfl (hs.1 _ _ _ ⟨rfl, rfl⟩) rfl rfl rfl rfl ⟨Nat.le_of_ble_eq_true rfl, Nat.le_of_ble_eq_true rfl⟩ (Nat.le_of_ble_eq_true rfl) dL_query_4 ?_
  rintro v S' M' ⟨rfl, hs', g, g2, rfl⟩
  show ch_W X E 4 S' M' 1 2 7 [(0, .ref (S.1 15 11 0)), (1, .int x1), (2, .ref (S.1 17 34 0))] [.int r, .int 0, .ref (S.1 17 34 0)]
  refine ca_i2l h dL_query_7 ?_
  refine ca_last h (k := 17) (kd := 34) (i := 0) rfl (g2 17 34 0 h34) (g 17 34 0 (by decide)) (x := 0) (n := 1) (show vp_in (nI 0) 1 from vp_in_nI (by decide) (by decide)) rfl dL_query_8 ?_
  refine ca_goto (tgt := 15) h dL_query_9 (by decide) ?_
  refine ca_iconst h dL_query_15 ik_0 ?_
  exact ca_ireturn h hR rfl dL_query_16 ⟨rfl, hs', g, g2, rfl⟩
set_option maxHeartbeats 400000 in
theorem c_L_query_ia {l : Launch} {E : ch_E} {S : ch_S} {μ : ch_M} (hs : ch_Std E S) {x1 : Int32} (hM : ch_CX E l yX11_query cX11_query 3 (some FieldType.int) 8 1 6 S μ [.ref (S.1 15 11 0), .int x1] (ch_FT vy_ia S μ)) : ch_CW E l yL_query cL_query 4 (some FieldType.int) [(0, 9, 12, 13)] 9 1 6 S μ [.ref (S.1 15 11 0), .int x1, .ref (S.1 17 34 0)] (ch_F (some (.int 1)) S μ) := by
  refine ch_enterW rfl rfl ?_
  intro X hl0 h hG hR ht
  subst hl0
  have h : ch_H X E RL cL_query 4 := h
  show ch_W X E 4 S μ 0 0 0 [(0, .ref (S.1 15 11 0)), (1, .int x1), (2, .ref (S.1 17 34 0))] []
  refine ca_aload_nr h dL_query_0 rfl ?_
  refine ca_iconst h dL_query_1 ik_0 ?_
  refine ca_aload_nr h dL_query_2 rfl ?_
  refine ca_iload_n h dL_query_3 rfl ?_
  refine ca_catch h hG ml_L_108 hM (ci := 11) rfl rfl rfl (hs.1 _ _ _ ⟨rfl, rfl⟩) rfl rfl rfl rfl ⟨Nat.le_of_ble_eq_true rfl, Nat.le_of_ble_eq_true rfl⟩ rfl dL_query_4 [] ({ startPc := 0, endPc := 9, handlerPc := 12, catchType := 13 } : ExceptionTableEntry) [] (ht.trans rfl) (fun z hz => absurd hz List.not_mem_nil) rfl (ct := 13) rfl (by decide) kw_508 (List.mem_of_getElem? (i := 0) rfl) (hpc := 12) rfl (fun q => ?_)
  refine ca_astore_n h dL_query_12 rfl ?_
  refine ca_iconst h dL_query_13 ik_1 ?_
  exact ca_ireturn h hR rfl dL_query_14 ⟨rfl, rfl, rfl⟩
