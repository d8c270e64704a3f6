theorem dvX0 : ∀ j, j < 9 → defaultValue (tyX0 j) = if ch_rs 0 j = true then .null else .int 0 := by
  intro j hj
  rcases (show j = 0 ∨ j = 1 ∨ j = 2 ∨ j = 3 ∨ j = 4 ∨ j = 5 ∨ j = 6 ∨ j = 7 ∨ j = 8 by omega) with rfl | rfl | rfl | rfl | rfl | rfl | rfl | rfl | rfl <;> rfl
theorem dvX1 : ∀ j, j < 3 → defaultValue (tyX1 j) = if ch_rs 1 j = true then .null else .int 0 := by
  intro j hj
  rcases (show j = 0 ∨ j = 1 ∨ j = 2 by omega) with rfl | rfl | rfl <;> rfl
theorem dvX2 : ∀ j, j < 13 → defaultValue (tyX2 j) = if ch_rs 2 j = true then .null else .int 0 := by
  intro j hj
  rcases (show j = 0 ∨ j = 1 ∨ j = 2 ∨ j = 3 ∨ j = 4 ∨ j = 5 ∨ j = 6 ∨ j = 7 ∨ j = 8 ∨ j = 9 ∨ j = 10 ∨ j = 11 ∨ j = 12 by omega) with rfl | rfl | rfl | rfl | rfl | rfl | rfl | rfl | rfl | rfl | rfl | rfl | rfl <;> rfl
theorem dvX3 : ∀ j, j < 17 → defaultValue (tyX3 j) = if ch_rs 3 j = true then .null else .int 0 := by
  intro j hj
  rcases (show j = 0 ∨ j = 1 ∨ j = 2 ∨ j = 3 ∨ j = 4 ∨ j = 5 ∨ j = 6 ∨ j = 7 ∨ j = 8 ∨ j = 9 ∨ j = 10 ∨ j = 11 ∨ j = 12 ∨ j = 13 ∨ j = 14 ∨ j = 15 ∨ j = 16 by omega) with rfl | rfl | rfl | rfl | rfl | rfl | rfl | rfl | rfl | rfl | rfl | rfl | rfl | rfl | rfl | rfl | rfl <;> rfl
theorem dvX4 : ∀ j, j < 2 → defaultValue (tyX4 j) = if ch_rs 4 j = true then .null else .int 0 := by
  intro j hj
  rcases (show j = 0 ∨ j = 1 by omega) with rfl | rfl <;> rfl
theorem dvX6 : ∀ j, j < 4 → defaultValue (tyX6 j) = if ch_rs 6 j = true then .null else .int 0 := by
  intro j hj
  rcases (show j = 0 ∨ j = 1 ∨ j = 2 ∨ j = 3 by omega) with rfl | rfl | rfl | rfl <;> rfl
theorem dvX7 : ∀ j, j < 4 → defaultValue (tyX7 j) = if ch_rs 7 j = true then .null else .int 0 := by
  intro j hj
  rcases (show j = 0 ∨ j = 1 ∨ j = 2 ∨ j = 3 by omega) with rfl | rfl | rfl | rfl <;> rfl
theorem dvX8 : ∀ j, j < 1 → defaultValue (tyX8 j) = if ch_rs 8 j = true then .null else .int 0 := by
  intro j hj
  rcases (show j = 0 by omega) with rfl <;> rfl
theorem dvX9 : ∀ j, j < 1 → defaultValue (tyX9 j) = if ch_rs 9 j = true then .null else .int 0 := by
  intro j hj
  rcases (show j = 0 by omega) with rfl <;> rfl
theorem dvX10 : ∀ j, j < 8 → defaultValue (tyX10 j) = if ch_rs 10 j = true then .null else .int 0 := by
  intro j hj
  rcases (show j = 0 ∨ j = 1 ∨ j = 2 ∨ j = 3 ∨ j = 4 ∨ j = 5 ∨ j = 6 ∨ j = 7 by omega) with rfl | rfl | rfl | rfl | rfl | rfl | rfl | rfl <;> rfl
theorem dvX11 : ∀ j, j < 8 → defaultValue (tyX11 j) = if ch_rs 11 j = true then .null else .int 0 := by
  intro j hj
  rcases (show j = 0 ∨ j = 1 ∨ j = 2 ∨ j = 3 ∨ j = 4 ∨ j = 5 ∨ j = 6 ∨ j = 7 by omega) with rfl | rfl | rfl | rfl | rfl | rfl | rfl | rfl <;> rfl
theorem dvX12 : ∀ j, j < 13 → defaultValue (tyX12 j) = if ch_rs 12 j = true then .null else .int 0 := by
  intro j hj
  rcases (show j = 0 ∨ j = 1 ∨ j = 2 ∨ j = 3 ∨ j = 4 ∨ j = 5 ∨ j = 6 ∨ j = 7 ∨ j = 8 ∨ j = 9 ∨ j = 10 ∨ j = 11 ∨ j = 12 by omega) with rfl | rfl | rfl | rfl | rfl | rfl | rfl | rfl | rfl | rfl | rfl | rfl | rfl <;> rfl
theorem dvX13 : ∀ j, j < 16 → defaultValue (tyX13 j) = if ch_rs 13 j = true then .null else .int 0 := by
  intro j hj
  rcases (show j = 0 ∨ j = 1 ∨ j = 2 ∨ j = 3 ∨ j = 4 ∨ j = 5 ∨ j = 6 ∨ j = 7 ∨ j = 8 ∨ j = 9 ∨ j = 10 ∨ j = 11 ∨ j = 12 ∨ j = 13 ∨ j = 14 ∨ j = 15 by omega) with rfl | rfl | rfl | rfl | rfl | rfl | rfl | rfl | rfl | rfl | rfl | rfl | rfl | rfl | rfl | rfl <;> rfl
theorem NP_00 {S : ch_S} {μ : ch_M} {k kd i : Nat} (hv : S.2.1 k kd i) : NP S S μ μ (fun a b c => (a = k ∧ b = kd ∧ c = i)) (fun a b c => (a = a + 1)) (fun a b c j => (a = a + 1)) :=
  NP_w (NP_0 hv) (fun _ _ _ => Iff.rfl) (fun a _ _ _ z => absurd z (Nat.succ_ne_self a).symm) (fun a _ _ _ _ _ z _ => absurd z (Nat.succ_ne_self a).symm)
theorem NP_newA {S0 S : ch_S} {μ0 μ : ch_M} {D Z : Nat → Nat → Nat → Prop} {R : Nat → Nat → Nat → Nat → Prop} {k kd i q : Nat} (h : NP S0 S μ0 μ D Z R) (h0 : ¬ S0.2.1 k kd i) (hn : ¬ D k kd i) (hz : i_0 kd = fun _ => 0) (hr : ∀ j, ¬ R k kd i j) :
    NP S0 (s_ad S k kd i q) μ0 (ch_z μ k kd i) (fun a b c => D a b c ∨ (a = k ∧ b = kd ∧ c = i)) (fun a b c => Z a b c ∨ (a = k ∧ b = kd ∧ c = i)) R ∧ ∀ a b c v, S.2.1 a b c → S.1 a b c = v → (s_ad S k kd i q).1 a b c = v :=
  NP_new h h0 hn (fun _ _ _ => Iff.rfl) (fun a b c d z => z.resolve_right (fun e => by obtain ⟨rfl, rfl, rfl⟩ := e; exact hn d)) (fun _ => hz) (fun _ _ _ _ _ _ z _ => z) (fun j r z _ => hr j z)
theorem NP_newO {S0 S : ch_S} {μ0 μ : ch_M} {D Z : Nat → Nat → Nat → Prop} {R : Nat → Nat → Nat → Nat → Prop} {k kd i q : Nat} (h : NP S0 S μ0 μ D Z R) (h0 : ¬ S0.2.1 k kd i) (hn : ¬ D k kd i) (hzn : ¬ Z k kd i) (hr : ∀ j, ¬ R k kd i j) :
    NP S0 (s_ad S k kd i q) μ0 (ch_z μ k kd i) (fun a b c => D a b c ∨ (a = k ∧ b = kd ∧ c = i)) Z R ∧ ∀ a b c v, S.2.1 a b c → S.1 a b c = v → (s_ad S k kd i q).1 a b c = v :=
  NP_new h h0 hn (fun _ _ _ => Iff.rfl) (fun a b c d z => z) (fun z => absurd z hzn) (fun _ _ _ _ _ _ z _ => z) (fun j r z _ => hr j z)
theorem NP_callA {S0 S S' : ch_S} {μ0 μ μ' : ch_M} {D Z P : Nat → Nat → Nat → Prop} {R : Nat → Nat → Nat → Nat → Prop} (h : NP S0 S μ0 μ D Z R) (hp : NP S S' μ μ' P NPT NPR) :
    NP S0 S' μ0 μ' (fun a b c => D a b c ∨ P a b c) (fun a b c => Z a b c ∨ P a b c) (fun a b c j => R a b c j ∨ P a b c) ∧ ∀ a b c v, S.2.1 a b c → S.1 a b c = v → S'.1 a b c = v :=
  NP_call h hp (fun _ _ _ => Iff.rfl) (fun _ _ _ _ n z => z.resolve_right n) (fun _ _ _ _ _ _ n z _ => z.resolve_right n)
theorem NP_rfA {S0 S : ch_S} {μ0 μ : ch_M} {D Z : Nat → Nat → Nat → Prop} {R : Nat → Nat → Nat → Nat → Prop} {k kd i j v : Nat} {r : Nat × Nat × Nat} (h : NP S0 S μ0 μ D Z R) (hd : D k kd i) (hr : ch_rt k kd i j = some r) (hv : S.2.1 r.1 r.2.1 r.2.2) (ev : S.1 r.1 r.2.1 r.2.2 = v) : NP S0 (s_rf S k kd i j v) μ0 μ D Z (fun a b c d => R a b c d ∨ (a = k ∧ b = kd ∧ c = i ∧ d = j)) :=
  NP_rf h hd hr hv ev (fun _ _ _ => Iff.rfl) (fun _ _ _ _ z => z) (fun _ _ _ _ _ _ z _ n => z.resolve_right n)
theorem NP_memA {S0 S : ch_S} {μ0 μ μ' : ch_M} {D Z : Nat → Nat → Nat → Prop} {R : Nat → Nat → Nat → Nat → Prop} {k kd i : Nat} (h : NP S0 S μ0 μ D Z R) (hd : D k kd i) (hm : ∀ a b c, ¬ (a = k ∧ b = kd ∧ c = i) → μ' a b c = μ a b c) (hz : μ' k kd i = i_0 kd) : NP S0 S μ0 μ' D (fun a b c => Z a b c ∨ (a = k ∧ b = kd ∧ c = i)) R :=
  NP_mem h hd hm (fun _ => hz) (fun _ _ _ _ n z => z.resolve_right n)
theorem NP_memO {S0 S : ch_S} {μ0 μ μ' : ch_M} {D Z : Nat → Nat → Nat → Prop} {R : Nat → Nat → Nat → Nat → Prop} {k kd i : Nat} (h : NP S0 S μ0 μ D Z R) (hd : D k kd i) (hn : ¬ Z k kd i) (hm : ∀ a b c, ¬ (a = k ∧ b = kd ∧ c = i) → μ' a b c = μ a b c) : NP S0 S μ0 μ' D Z R :=
  NP_mem h hd hm (fun z => absurd z hn) (fun _ _ _ _ _ z => z)
set_option maxHeartbeats 400000 in
theorem c_X0_init {l : Launch} {E : ch_E} {S : ch_S} {μ : ch_M} {k i : Nat} (hv : S.2.1 k 1 i) (hz : μ k 1 i = fun _ => 0) : ch_C E l yX0_init cX0_init 1 (Option.none : Option Jvm.ClassFile.FieldType) 2 0 0 S μ [.ref (S.1 k 1 i)] (c_Post S μ (fun a b c => (a = k ∧ b = 1 ∧ c = i))) := by
  refine ch_enter rfl rfl ?_
  intro X hl0 h hG hR hnm
  have h : ch_H X E RX0 cX0_init 1 := h
  have hb : ∀ {S' : ch_S}, S'.2.1 k 1 i → ch_bs X E S' := fun z => Or.inr ⟨_, _, _, z⟩
  show ch_W X E 1 S μ 0 0 0 [(0, .ref (S.1 k 1 i))] []
  have np := NP_00 (μ := μ) hv
  obtain ⟨b0, e_b0⟩ : ∃ z, S.1 k 1 i = z := ⟨_, rfl⟩
  rw [e_b0]
  have z_b0 := hz
  refine ca_aload_nr h dX0_init_0 rfl ?_
  refine ca_objI h hG kw_84 kw_32 kw_33 rfl rfl dX0_init_1 ?_
  refine ca_room (kc' := 0) (ks' := 0) (by omega) (by omega) ?_
  refine ca_vreturn h hR dX0_init_4 ⟨rfl, ?_⟩
  replace np := NP_memA (μ' := μ) np ⟨rfl, rfl, rfl⟩ (fun a b c _ => rfl) z_b0
  exact NP_w np (by intro a b c; omega) (by intro a b c d z; first | trivial | omega) (by intro a b c j r d z e; have ej := ch_rt_j e; clear e; first | trivial | omega)
set_option maxHeartbeats 400000 in
theorem c_X7_init {l : Launch} {E : ch_E} {S : ch_S} {μ : ch_M} {k i : Nat} (hv : S.2.1 k 2 i) (hz : μ k 2 i = fun _ => 0) : ch_C E l yX7_init cX7_init 1 (Option.none : Option Jvm.ClassFile.FieldType) 2 0 0 S μ [.ref (S.1 k 2 i)] (c_Post S μ (fun a b c => (a = k ∧ b = 2 ∧ c = i))) := by
  refine ch_enter rfl rfl ?_
  intro X hl0 h hG hR hnm
  have h : ch_H X E RX7 cX7_init 1 := h
  have hb : ∀ {S' : ch_S}, S'.2.1 k 2 i → ch_bs X E S' := fun z => Or.inr ⟨_, _, _, z⟩
  show ch_W X E 1 S μ 0 0 0 [(0, .ref (S.1 k 2 i))] []
  have np := NP_00 (μ := μ) hv
  obtain ⟨b0, e_b0⟩ : ∃ z, S.1 k 2 i = z := ⟨_, rfl⟩
  rw [e_b0]
  have z_b0 := hz
  refine ca_aload_nr h dX7_init_0 rfl ?_
  refine ca_objI h hG kw_133 kw_32 kw_33 rfl rfl dX7_init_1 ?_
  refine ca_room (kc' := 0) (ks' := 0) (by omega) (by omega) ?_
  refine ca_vreturn h hR dX7_init_4 ⟨rfl, ?_⟩
  replace np := NP_memA (μ' := μ) np ⟨rfl, rfl, rfl⟩ (fun a b c _ => rfl) z_b0
  exact NP_w np (by intro a b c; omega) (by intro a b c d z; first | trivial | omega) (by intro a b c j r d z e; have ej := ch_rt_j e; clear e; first | trivial | omega)
theorem i_z11 : up (fun _ => 0 : Nat → Int32) 7 0 = i_0 11 := by funext j; unfold up i_0; simp
theorem i_z14 : (fun _ => 0 : Nat → Int32) = i_0 14 := rfl
theorem i_z16 : (fun _ => 0 : Nat → Int32) = i_0 16 := rfl
theorem i_z17 : (fun _ => 0 : Nat → Int32) = i_0 17 := rfl
theorem i_z20 : (fun _ => 0 : Nat → Int32) = i_0 20 := rfl
theorem i_z3 : up (up (fun _ => 0 : Nat → Int32) 5 (-1)) 8 (-1) = i_0 3 := by
  funext j
  unfold i_0 up
  by_cases h5 : j = 5 <;> by_cases h8 : j = 8 <;> simp [h5, h8]
theorem i_z12 : up (fun _ => 0 : Nat → Int32) 2 (-1) = i_0 12 := by
  funext j
  unfold i_0 up
  rfl
theorem k_dfl_n {μ : ch_M} {k a b c : Nat} (e : ¬ (a = k ∧ b = 0 ∧ c = 0)) : up μ k (k_dfl (μ k)) a b c = μ a b c := by
  by_cases h : a = k
  · subst h
    rw [up_s]
    funext j
    unfold k_dfl
    simp only [nw_at]
    have e' : ¬ (b = 0 ∧ c = 0) := fun z => e ⟨rfl, z.1, z.2⟩
    simp only [show ∀ x, ¬ (b = 0 ∧ c = 0 ∧ j = x) from fun x z => e' ⟨z.1, z.2.1⟩, if_false]
  · rw [up_n h]
theorem k_dfl_z {μ : ch_M} {k : Nat} (h : μ k 0 0 = fun _ => 0) : up μ k (k_dfl (μ k)) k 0 0 = i_0 0 := by
  rw [up_s]
  funext j
  unfold k_dfl i_0
  simp only [nw_at, h, true_and]
  by_cases h4 : j = 4
  · subst h4; rfl
  · by_cases h5 : j = 5
    · subst h5; rfl
    · by_cases h6 : j = 6
      · subst h6; rfl
      · by_cases h7 : j = 7
        · subst h7; rfl
        · by_cases h8 : j = 8
          · subst h8; rfl
          · by_cases h9 : j = 9
            · subst h9; rfl
            · simp [h4, h5, h6, h7, h8, h9]
set_option maxHeartbeats 400000 in
theorem c_X2_init {l : Launch} {E : ch_E} {S : ch_S} {μ : ch_M} {k i : Nat} (hv : S.2.1 k 3 i) (hz : μ k 3 i = fun _ => 0) (hf : ∀ a b c, (a = k ∧ 3 ≤ b ∧ b ≤ 6 ∧ c = i) → ¬ (a = k ∧ b = 3 ∧ c = i) → ¬ S.2.1 a b c) : ch_C E l yX2_init cX2_init 1 (Option.none : Option Jvm.ClassFile.FieldType) 2 3 80 S μ [.ref (S.1 k 3 i)] (c_Post S μ (fun a b c => (a = k ∧ 3 ≤ b ∧ b ≤ 6 ∧ c = i))) := by
  refine ch_enter rfl rfl ?_
  intro X hl0 h hG hR hnm
  have h : ch_H X E RX2 cX2_init 1 := h
  have hb : ∀ {S' : ch_S}, S'.2.1 k 3 i → ch_bs X E S' := fun z => Or.inr ⟨_, _, _, z⟩
  show ch_W X E 1 S μ 0 0 0 [(0, .ref (S.1 k 3 i))] []
  have np := NP_00 (μ := μ) hv
  obtain ⟨b0, e_b0⟩ : ∃ z, S.1 k 3 i = z := ⟨_, rfl⟩
  rw [e_b0]
  have z_b0 := hz
  refine ca_aload_nr h dX2_init_0 rfl ?_
  refine ca_objI h hG kw_163 kw_32 kw_33 rfl rfl dX2_init_1 ?_
  refine ca_aload_nr h dX2_init_4 rfl ?_
  refine ca_bipush h dX2_init_5 bk_64 ?_
  refine ca_newI h k 4 i hG (hb (NP_v np (by omega))) rfl kw_67 (by decide) (n := 64) (by decide) rfl ⟨by omega, by omega⟩ dX2_init_7 ?_
  intro q4
  obtain ⟨np', mv⟩ := NP_newA (q := q4) np (hf k 4 i (by (first | omega | (unfold PN0; omega) | simp)) (by omega)) (by show ¬ ((k) = k ∧ (4) = 3 ∧ (i) = i); omega) rfl (by intro j; show ¬ ((k) = (k) + 1); omega)
  replace e_b0 := mv k 3 i _ (NP_v np ⟨rfl, rfl, rfl⟩) e_b0
  have e_q4 := s_ad_s S k 4 i q4
  clear np mv
  generalize s_ad S k 4 i q4 = S1 at np' e_b0 e_q4 ⊢
  replace z_b0 := (ch_z_n (μ := μ) (k := k) (kd := 4) (i := i) (show ¬ (k = k ∧ 3 = 4 ∧ i = i) by omega)).trans z_b0
  generalize hz_ : ch_z μ k 4 i = μ1 at np' z_b0 ⊢
  have z_q4 : μ1 k 4 i = fun _ => 0 := by rw [← hz_]; exact ch_z_0 _ _ _ _
  clear hz_
  have np := np'
  clear np'
  refine ca_putR (ci := 2) (j := 10) (ty := tyX2 10) h rfl rfl li_X2 tyX2 tyX2_ok nmX2 rfl (NP_v np (Or.inl ⟨rfl, rfl, rfl⟩)) e_b0 (by decide) rfl kw_201 rfl hnm rfl (tyX2_ok 10 (by decide)) rfl rfl dX2_init_9 ?_
  replace np := NP_rfA np (j := 10) (Or.inl ⟨rfl, rfl, rfl⟩) (r := (k, 4, i)) rfl (NP_v np (Or.inr ⟨rfl, rfl, rfl⟩)) e_q4
  replace e_b0 : (s_rf S1 k 3 i 10 q4).1 k 3 i = b0 := e_b0
  replace e_q4 : (s_rf S1 k 3 i 10 q4).1 k 4 i = q4 := e_q4
  generalize s_rf S1 k 3 i 10 q4 = S2 at np e_b0 e_q4 ⊢
  refine ca_aload_nr h dX2_init_12 rfl ?_
  refine ca_bipush h dX2_init_13 bk_8 ?_
  refine ca_newI h k 5 i hG (hb (NP_v np (by omega))) rfl kw_67 (by decide) (n := 8) (by decide) rfl ⟨by omega, by omega⟩ dX2_init_15 ?_
  intro q5
  obtain ⟨np', mv⟩ := NP_newA (q := q5) np (hf k 5 i (by (first | omega | (unfold PN0; omega) | simp)) (by omega)) (by show ¬ (((k) = k ∧ (5) = 3 ∧ (i) = i) ∨ ((k) = k ∧ (5) = 4 ∧ (i) = i)); omega) rfl (by intro j; show ¬ (((k) = (k) + 1) ∨ ((k) = k ∧ (5) = 3 ∧ (i) = i ∧ (j) = 10)); omega)
  replace e_b0 := mv k 3 i _ (NP_v np (Or.inl ⟨rfl, rfl, rfl⟩)) e_b0
  replace e_q4 := mv k 4 i _ (NP_v np (Or.inr ⟨rfl, rfl, rfl⟩)) e_q4
  have e_q5 := s_ad_s S2 k 5 i q5
  clear np mv
  generalize s_ad S2 k 5 i q5 = S3 at np' e_b0 e_q4 e_q5 ⊢
  replace z_b0 := (ch_z_n (μ := μ1) (k := k) (kd := 5) (i := i) (show ¬ (k = k ∧ 3 = 5 ∧ i = i) by omega)).trans z_b0
  generalize hz_ : ch_z μ1 k 5 i = μ3 at np' z_b0 ⊢
  have z_q5 : μ3 k 5 i = fun _ => 0 := by rw [← hz_]; exact ch_z_0 _ _ _ _
  clear hz_
  have np := np'
  clear np'
  refine ca_putR (ci := 2) (j := 11) (ty := tyX2 11) h rfl rfl li_X2 tyX2 tyX2_ok nmX2 rfl (NP_v np (Or.inl (Or.inl ⟨rfl, rfl, rfl⟩))) e_b0 (by decide) rfl kw_202 rfl hnm rfl (tyX2_ok 11 (by decide)) rfl rfl dX2_init_17 ?_
  replace np := NP_rfA np (j := 11) (Or.inl (Or.inl ⟨rfl, rfl, rfl⟩)) (r := (k, 5, i)) rfl (NP_v np (Or.inr ⟨rfl, rfl, rfl⟩)) e_q5
  replace e_b0 : (s_rf S3 k 3 i 11 q5).1 k 3 i = b0 := e_b0
  replace e_q4 : (s_rf S3 k 3 i 11 q5).1 k 4 i = q4 := e_q4
  replace e_q5 : (s_rf S3 k 3 i 11 q5).1 k 5 i = q5 := e_q5
  generalize s_rf S3 k 3 i 11 q5 = S4 at np e_b0 e_q4 e_q5 ⊢
  refine ca_aload_nr h dX2_init_20 rfl ?_
  refine ca_bipush h dX2_init_21 bk_8 ?_
  refine ca_newI h k 6 i hG (hb (NP_v np (by omega))) rfl kw_67 (by decide) (n := 8) (by decide) rfl ⟨by omega, by omega⟩ dX2_init_23 ?_
  intro q6
  obtain ⟨np', mv⟩ := NP_newA (q := q6) np (hf k 6 i (by (first | omega | (unfold PN0; omega) | simp)) (by omega)) (by show ¬ ((((k) = k ∧ (6) = 3 ∧ (i) = i) ∨ ((k) = k ∧ (6) = 4 ∧ (i) = i)) ∨ ((k) = k ∧ (6) = 5 ∧ (i) = i)); omega) rfl (by intro j; show ¬ ((((k) = (k) + 1) ∨ ((k) = k ∧ (6) = 3 ∧ (i) = i ∧ (j) = 10)) ∨ ((k) = k ∧ (6) = 3 ∧ (i) = i ∧ (j) = 11)); omega)
  replace e_b0 := mv k 3 i _ (NP_v np (Or.inl (Or.inl ⟨rfl, rfl, rfl⟩))) e_b0
  replace e_q4 := mv k 4 i _ (NP_v np (Or.inl (Or.inr ⟨rfl, rfl, rfl⟩))) e_q4
  replace e_q5 := mv k 5 i _ (NP_v np (Or.inr ⟨rfl, rfl, rfl⟩)) e_q5
  have e_q6 := s_ad_s S4 k 6 i q6
  clear np mv
  generalize s_ad S4 k 6 i q6 = S5 at np' e_b0 e_q4 e_q5 e_q6 ⊢
  replace z_b0 := (ch_z_n (μ := μ3) (k := k) (kd := 6) (i := i) (show ¬ (k = k ∧ 3 = 6 ∧ i = i) by omega)).trans z_b0
  generalize hz_ : ch_z μ3 k 6 i = μ5 at np' z_b0 ⊢
  have z_q6 : μ5 k 6 i = fun _ => 0 := by rw [← hz_]; exact ch_z_0 _ _ _ _
  clear hz_
  have np := np'
  clear np'
  refine ca_putR (ci := 2) (j := 12) (ty := tyX2 12) h rfl rfl li_X2 tyX2 tyX2_ok nmX2 rfl (NP_v np (Or.inl (Or.inl (Or.inl ⟨rfl, rfl, rfl⟩)))) e_b0 (by decide) rfl kw_203 rfl hnm rfl (tyX2_ok 12 (by decide)) rfl rfl dX2_init_25 ?_
  replace np := NP_rfA np (j := 12) (Or.inl (Or.inl (Or.inl ⟨rfl, rfl, rfl⟩))) (r := (k, 6, i)) rfl (NP_v np (Or.inr ⟨rfl, rfl, rfl⟩)) e_q6
  replace e_b0 : (s_rf S5 k 3 i 12 q6).1 k 3 i = b0 := e_b0
  replace e_q4 : (s_rf S5 k 3 i 12 q6).1 k 4 i = q4 := e_q4
  replace e_q5 : (s_rf S5 k 3 i 12 q6).1 k 5 i = q5 := e_q5
  replace e_q6 : (s_rf S5 k 3 i 12 q6).1 k 6 i = q6 := e_q6
  generalize s_rf S5 k 3 i 12 q6 = S6 at np e_b0 e_q4 e_q5 e_q6 ⊢
  refine ca_aload_nr h dX2_init_28 rfl ?_
  refine ca_iconst h dX2_init_29 ik_m1 ?_
  refine ca_tR2 e_b0 ?_
  refine pi_X2_21 h (NP_v np (Or.inl (Or.inl (Or.inl ⟨rfl, rfl, rfl⟩)))) dX2_init_30 ?_
  replace z_b0 : ch_st μ5 k 3 i 5 (-1) k 3 i = _ := (ch_st_same _ _ _ _ _ _).trans (congrArg (fun z => up z 5 (-1)) z_b0)
  replace np := NP_memO (μ' := ch_st μ5 k 3 i 5 (-1)) np (Or.inl (Or.inl (Or.inl ⟨rfl, rfl, rfl⟩))) (by show ¬ (((((k) = (k) + 1) ∨ ((k) = k ∧ (3) = 4 ∧ (i) = i)) ∨ ((k) = k ∧ (3) = 5 ∧ (i) = i)) ∨ ((k) = k ∧ (3) = 6 ∧ (i) = i)); omega) (fun a b c e => ch_st_ne e)
  generalize ch_st μ5 k 3 i 5 (-1) = μ7 at np z_b0 ⊢
  refine ca_aload_nr h dX2_init_33 rfl ?_
  refine ca_iconst h dX2_init_34 ik_m1 ?_
  refine ca_tR2 e_b0 ?_
  refine pi_X2_25 h (NP_v np (Or.inl (Or.inl (Or.inl ⟨rfl, rfl, rfl⟩)))) dX2_init_35 ?_
  replace z_b0 : ch_st μ7 k 3 i 8 (-1) k 3 i = _ := (ch_st_same _ _ _ _ _ _).trans (congrArg (fun z => up z 8 (-1)) z_b0)
  replace np := NP_memO (μ' := ch_st μ7 k 3 i 8 (-1)) np (Or.inl (Or.inl (Or.inl ⟨rfl, rfl, rfl⟩))) (by show ¬ (((((k) = (k) + 1) ∨ ((k) = k ∧ (3) = 4 ∧ (i) = i)) ∨ ((k) = k ∧ (3) = 5 ∧ (i) = i)) ∨ ((k) = k ∧ (3) = 6 ∧ (i) = i)); omega) (fun a b c e => ch_st_ne e)
  generalize ch_st μ7 k 3 i 8 (-1) = μ8 at np z_b0 ⊢
  refine ca_room (kc' := 3) (ks' := 80) (by omega) (by omega) ?_
  refine ca_vreturn h hR dX2_init_38 ⟨rfl, ?_⟩
  replace np := NP_memA (μ' := μ8) np (Or.inl (Or.inl (Or.inl ⟨rfl, rfl, rfl⟩))) (fun a b c _ => rfl) (z_b0.trans i_z3)
  exact NP_w np (by intro a b c; omega) (by intro a b c d z; first | trivial | omega) (by intro a b c j r d z e; have ej := ch_rt_j e; clear e; first | trivial | omega)
set_option maxHeartbeats 400000 in
theorem c_X6_init {l : Launch} {E : ch_E} {S : ch_S} {μ : ch_M}  (hv : S.2.1 15 17 0) (hz : μ 15 17 0 = fun _ => 0) (hf : ∀ a b c, (a = 15 ∧ 17 ≤ b ∧ b ≤ 19 ∧ c = 0) → ¬ (a = 15 ∧ b = 17 ∧ c = 0) → ¬ S.2.1 a b c) : ch_C E l yX6_init cX6_init 1 (Option.none : Option Jvm.ClassFile.FieldType) 2 2 16 S μ [.ref (S.1 15 17 0)] (c_Post S μ (fun a b c => (a = 15 ∧ 17 ≤ b ∧ b ≤ 19 ∧ c = 0))) := by
  refine ch_enter rfl rfl ?_
  intro X hl0 h hG hR hnm
  have h : ch_H X E RX6 cX6_init 1 := h
  have hb : ∀ {S' : ch_S}, S'.2.1 15 17 0 → ch_bs X E S' := fun z => Or.inr ⟨_, _, _, z⟩
  show ch_W X E 1 S μ 0 0 0 [(0, .ref (S.1 15 17 0))] []
  have np := NP_00 (μ := μ) hv
  obtain ⟨b0, e_b0⟩ : ∃ z, S.1 15 17 0 = z := ⟨_, rfl⟩
  rw [e_b0]
  have z_b0 := hz
  refine ca_aload_nr h dX6_init_0 rfl ?_
  refine ca_objI h hG kw_339 kw_32 kw_33 rfl rfl dX6_init_1 ?_
  refine ca_aload_nr h dX6_init_4 rfl ?_
  refine ca_bipush h dX6_init_5 bk_8 ?_
  refine ca_newI h 15 18 0 hG (hb (NP_v np (by omega))) rfl kw_67 (by decide) (n := 8) (by decide) rfl ⟨by omega, by omega⟩ dX6_init_7 ?_
  intro q18
  obtain ⟨np', mv⟩ := NP_newA (q := q18) np (hf 15 18 0 (by (first | omega | (unfold PN0; omega) | simp)) (by omega)) (by show ¬ ((15) = 15 ∧ (18) = 17 ∧ (0) = 0); omega) rfl (by intro j; show ¬ ((15) = (15) + 1); omega)
  replace e_b0 := mv 15 17 0 _ (NP_v np ⟨rfl, rfl, rfl⟩) e_b0
  have e_q18 := s_ad_s S 15 18 0 q18
  clear np mv
  generalize s_ad S 15 18 0 q18 = S1 at np' e_b0 e_q18 ⊢
  replace z_b0 := (ch_z_n (μ := μ) (k := 15) (kd := 18) (i := 0) (show ¬ (15 = 15 ∧ 17 = 18 ∧ 0 = 0) by omega)).trans z_b0
  generalize hz_ : ch_z μ 15 18 0 = μ1 at np' z_b0 ⊢
  have z_q18 : μ1 15 18 0 = fun _ => 0 := by rw [← hz_]; exact ch_z_0 _ _ _ _
  clear hz_
  have np := np'
  clear np'
  refine ca_putR (ci := 6) (j := 2) (ty := tyX6 2) h rfl rfl li_X6 tyX6 tyX6_ok nmX6 rfl (NP_v np (Or.inl ⟨rfl, rfl, rfl⟩)) e_b0 (by decide) rfl kw_344 rfl hnm rfl (tyX6_ok 2 (by decide)) rfl rfl dX6_init_9 ?_
  replace np := NP_rfA np (j := 2) (Or.inl ⟨rfl, rfl, rfl⟩) (r := (15, 18, 0)) rfl (NP_v np (Or.inr ⟨rfl, rfl, rfl⟩)) e_q18
  replace e_b0 : (s_rf S1 15 17 0 2 q18).1 15 17 0 = b0 := e_b0
  replace e_q18 : (s_rf S1 15 17 0 2 q18).1 15 18 0 = q18 := e_q18
  generalize s_rf S1 15 17 0 2 q18 = S2 at np e_b0 e_q18 ⊢
  refine ca_aload_nr h dX6_init_12 rfl ?_
  refine ca_bipush h dX6_init_13 bk_8 ?_
  refine ca_newI h 15 19 0 hG (hb (NP_v np (by omega))) rfl kw_67 (by decide) (n := 8) (by decide) rfl ⟨by omega, by omega⟩ dX6_init_15 ?_
  intro q19
  obtain ⟨np', mv⟩ := NP_newA (q := q19) np (hf 15 19 0 (by (first | omega | (unfold PN0; omega) | simp)) (by omega)) (by show ¬ (((15) = 15 ∧ (19) = 17 ∧ (0) = 0) ∨ ((15) = 15 ∧ (19) = 18 ∧ (0) = 0)); omega) rfl (by intro j; show ¬ (((15) = (15) + 1) ∨ ((15) = 15 ∧ (19) = 17 ∧ (0) = 0 ∧ (j) = 2)); omega)
  replace e_b0 := mv 15 17 0 _ (NP_v np (Or.inl ⟨rfl, rfl, rfl⟩)) e_b0
  replace e_q18 := mv 15 18 0 _ (NP_v np (Or.inr ⟨rfl, rfl, rfl⟩)) e_q18
  have e_q19 := s_ad_s S2 15 19 0 q19
  clear np mv
  generalize s_ad S2 15 19 0 q19 = S3 at np' e_b0 e_q18 e_q19 ⊢
  replace z_b0 := (ch_z_n (μ := μ1) (k := 15) (kd := 19) (i := 0) (show ¬ (15 = 15 ∧ 17 = 19 ∧ 0 = 0) by omega)).trans z_b0
  generalize hz_ : ch_z μ1 15 19 0 = μ3 at np' z_b0 ⊢
  have z_q19 : μ3 15 19 0 = fun _ => 0 := by rw [← hz_]; exact ch_z_0 _ _ _ _
  clear hz_
  have np := np'
  clear np'
  refine ca_putR (ci := 6) (j := 3) (ty := tyX6 3) h rfl rfl li_X6 tyX6 tyX6_ok nmX6 rfl (NP_v np (Or.inl (Or.inl ⟨rfl, rfl, rfl⟩))) e_b0 (by decide) rfl kw_345 rfl hnm rfl (tyX6_ok 3 (by decide)) rfl rfl dX6_init_17 ?_
  replace np := NP_rfA np (j := 3) (Or.inl (Or.inl ⟨rfl, rfl, rfl⟩)) (r := (15, 19, 0)) rfl (NP_v np (Or.inr ⟨rfl, rfl, rfl⟩)) e_q19
  replace e_b0 : (s_rf S3 15 17 0 3 q19).1 15 17 0 = b0 := e_b0
  replace e_q18 : (s_rf S3 15 17 0 3 q19).1 15 18 0 = q18 := e_q18
  replace e_q19 : (s_rf S3 15 17 0 3 q19).1 15 19 0 = q19 := e_q19
  generalize s_rf S3 15 17 0 3 q19 = S4 at np e_b0 e_q18 e_q19 ⊢
  refine ca_room (kc' := 2) (ks' := 16) (by omega) (by omega) ?_
  refine ca_vreturn h hR dX6_init_20 ⟨rfl, ?_⟩
  replace np := NP_memA (μ' := μ3) np (Or.inl (Or.inl ⟨rfl, rfl, rfl⟩)) (fun a b c _ => rfl) (z_b0.trans i_z17)
  exact NP_w np (by intro a b c; omega) (by intro a b c d z; first | trivial | omega) (by intro a b c j r d z e; have ej := ch_rt_j e; clear e; first | trivial | omega)
set_option maxHeartbeats 400000 in
theorem c_X9_init {l : Launch} {E : ch_E} {S : ch_S} {μ : ch_M}  (hv : S.2.1 15 20 0) (hz : μ 15 20 0 = fun _ => 0) (hf : ∀ a b c, (a = 15 ∧ 20 ≤ b ∧ b ≤ 21 ∧ c = 0) → ¬ (a = 15 ∧ b = 20 ∧ c = 0) → ¬ S.2.1 a b c) : ch_C E l yX9_init cX9_init 1 (Option.none : Option Jvm.ClassFile.FieldType) 2 1 64 S μ [.ref (S.1 15 20 0)] (c_Post S μ (fun a b c => (a = 15 ∧ 20 ≤ b ∧ b ≤ 21 ∧ c = 0))) := by
  refine ch_enter rfl rfl ?_
  intro X hl0 h hG hR hnm
  have h : ch_H X E RX9 cX9_init 1 := h
  have hb : ∀ {S' : ch_S}, S'.2.1 15 20 0 → ch_bs X E S' := fun z => Or.inr ⟨_, _, _, z⟩
  show ch_W X E 1 S μ 0 0 0 [(0, .ref (S.1 15 20 0))] []
  have np := NP_00 (μ := μ) hv
  obtain ⟨b0, e_b0⟩ : ∃ z, S.1 15 20 0 = z := ⟨_, rfl⟩
  rw [e_b0]
  have z_b0 := hz
  refine ca_aload_nr h dX9_init_0 rfl ?_
  refine ca_objI h hG kw_364 kw_32 kw_33 rfl rfl dX9_init_1 ?_
  refine ca_aload_nr h dX9_init_4 rfl ?_
  refine ca_bipush h dX9_init_5 bk_64 ?_
  refine ca_newI h 15 21 0 hG (hb (NP_v np (by omega))) rfl kw_67 (by decide) (n := 64) (by decide) rfl ⟨by omega, by omega⟩ dX9_init_7 ?_
  intro q21
  obtain ⟨np', mv⟩ := NP_newA (q := q21) np (hf 15 21 0 (by (first | omega | (unfold PN0; omega) | simp)) (by omega)) (by show ¬ ((15) = 15 ∧ (21) = 20 ∧ (0) = 0); omega) rfl (by intro j; show ¬ ((15) = (15) + 1); omega)
  replace e_b0 := mv 15 20 0 _ (NP_v np ⟨rfl, rfl, rfl⟩) e_b0
  have e_q21 := s_ad_s S 15 21 0 q21
  clear np mv
  generalize s_ad S 15 21 0 q21 = S1 at np' e_b0 e_q21 ⊢
  replace z_b0 := (ch_z_n (μ := μ) (k := 15) (kd := 21) (i := 0) (show ¬ (15 = 15 ∧ 20 = 21 ∧ 0 = 0) by omega)).trans z_b0
  generalize hz_ : ch_z μ 15 21 0 = μ1 at np' z_b0 ⊢
  have z_q21 : μ1 15 21 0 = fun _ => 0 := by rw [← hz_]; exact ch_z_0 _ _ _ _
  clear hz_
  have np := np'
  clear np'
  refine ca_putR (ci := 9) (j := 0) (ty := tyX9 0) h rfl rfl li_X9 tyX9 tyX9_ok nmX9 rfl (NP_v np (Or.inl ⟨rfl, rfl, rfl⟩)) e_b0 (by decide) rfl kw_365 rfl hnm rfl (tyX9_ok 0 (by decide)) rfl rfl dX9_init_9 ?_
  replace np := NP_rfA np (j := 0) (Or.inl ⟨rfl, rfl, rfl⟩) (r := (15, 21, 0)) rfl (NP_v np (Or.inr ⟨rfl, rfl, rfl⟩)) e_q21
  replace e_b0 : (s_rf S1 15 20 0 0 q21).1 15 20 0 = b0 := e_b0
  replace e_q21 : (s_rf S1 15 20 0 0 q21).1 15 21 0 = q21 := e_q21
  generalize s_rf S1 15 20 0 0 q21 = S2 at np e_b0 e_q21 ⊢
  refine ca_room (kc' := 1) (ks' := 64) (by omega) (by omega) ?_
  refine ca_vreturn h hR dX9_init_12 ⟨rfl, ?_⟩
  replace np := NP_memA (μ' := μ1) np (Or.inl ⟨rfl, rfl, rfl⟩) (fun a b c _ => rfl) (z_b0.trans i_z20)
  exact NP_w np (by intro a b c; omega) (by intro a b c d z; first | trivial | omega) (by intro a b c j r d z e; have ej := ch_rt_j e; clear e; first | trivial | omega)
set_option maxHeartbeats 400000 in
theorem c_X10_init {l : Launch} {E : ch_E} {S : ch_S} {μ : ch_M}  (hv : S.2.1 15 12 0) (hz : μ 15 12 0 = fun _ => 0) (hf : ∀ a b c, (a = 15 ∧ 12 ≤ b ∧ b ≤ 13 ∧ c = 0) → ¬ (a = 15 ∧ b = 12 ∧ c = 0) → ¬ S.2.1 a b c) : ch_C E l yX10_init cX10_init 1 (Option.none : Option Jvm.ClassFile.FieldType) 2 1 700 S μ [.ref (S.1 15 12 0)] (c_Post S μ (fun a b c => (a = 15 ∧ 12 ≤ b ∧ b ≤ 13 ∧ c = 0))) := by
  refine ch_enter rfl rfl ?_
  intro X hl0 h hG hR hnm
  have h : ch_H X E RX10 cX10_init 1 := h
  have hb : ∀ {S' : ch_S}, S'.2.1 15 12 0 → ch_bs X E S' := fun z => Or.inr ⟨_, _, _, z⟩
  show ch_W X E 1 S μ 0 0 0 [(0, .ref (S.1 15 12 0))] []
  have np := NP_00 (μ := μ) hv
  obtain ⟨b0, e_b0⟩ : ∃ z, S.1 15 12 0 = z := ⟨_, rfl⟩
  rw [e_b0]
  have z_b0 := hz
  refine ca_aload_nr h dX10_init_0 rfl ?_
  refine ca_objI h hG kw_39 kw_32 kw_33 rfl rfl dX10_init_1 ?_
  refine ca_aload_nr h dX10_init_4 rfl ?_
  refine ca_iconst h dX10_init_5 ik_m1 ?_
  refine ca_tR2 e_b0 ?_
  refine pi_X10_9 h (NP_v np ⟨rfl, rfl, rfl⟩) dX10_init_6 ?_
  replace z_b0 : ch_st μ 15 12 0 2 (-1) 15 12 0 = _ := (ch_st_same _ _ _ _ _ _).trans (congrArg (fun z => up z 2 (-1)) z_b0)
  replace np := NP_memO (μ' := ch_st μ 15 12 0 2 (-1)) np ⟨rfl, rfl, rfl⟩ (by show ¬ ((15) = (15) + 1); omega) (fun a b c e => ch_st_ne e)
  generalize ch_st μ 15 12 0 2 (-1) = μ1 at np z_b0 ⊢
  refine ca_aload_nr h dX10_init_9 rfl ?_
  refine ca_sipush h dX10_init_10 sk_700 ?_
  refine ca_newI h 15 13 0 hG (hb (NP_v np (by omega))) rfl kw_67 (by decide) (n := 700) (by decide) rfl ⟨by omega, by omega⟩ dX10_init_13 ?_
  intro q13
  obtain ⟨np', mv⟩ := NP_newA (q := q13) np (hf 15 13 0 (by (first | omega | (unfold PN0; omega) | simp)) (by omega)) (by show ¬ ((15) = 15 ∧ (13) = 12 ∧ (0) = 0); omega) rfl (by intro j; show ¬ ((15) = (15) + 1); omega)
  replace e_b0 := mv 15 12 0 _ (NP_v np ⟨rfl, rfl, rfl⟩) e_b0
  have e_q13 := s_ad_s S 15 13 0 q13
  clear np mv
  generalize s_ad S 15 13 0 q13 = S2 at np' e_b0 e_q13 ⊢
  replace z_b0 := (ch_z_n (μ := μ1) (k := 15) (kd := 13) (i := 0) (show ¬ (15 = 15 ∧ 12 = 13 ∧ 0 = 0) by omega)).trans z_b0
  generalize hz_ : ch_z μ1 15 13 0 = μ2 at np' z_b0 ⊢
  have z_q13 : μ2 15 13 0 = fun _ => 0 := by rw [← hz_]; exact ch_z_0 _ _ _ _
  clear hz_
  have np := np'
  clear np'
  refine ca_putR (ci := 10) (j := 3) (ty := tyX10 3) h rfl rfl li_X10 tyX10 tyX10_ok nmX10 rfl (NP_v np (Or.inl ⟨rfl, rfl, rfl⟩)) e_b0 (by decide) rfl kw_45 rfl hnm rfl (tyX10_ok 3 (by decide)) rfl rfl dX10_init_15 ?_
  replace np := NP_rfA np (j := 3) (Or.inl ⟨rfl, rfl, rfl⟩) (r := (15, 13, 0)) rfl (NP_v np (Or.inr ⟨rfl, rfl, rfl⟩)) e_q13
  replace e_b0 : (s_rf S2 15 12 0 3 q13).1 15 12 0 = b0 := e_b0
  replace e_q13 : (s_rf S2 15 12 0 3 q13).1 15 13 0 = q13 := e_q13
  generalize s_rf S2 15 12 0 3 q13 = S3 at np e_b0 e_q13 ⊢
  refine ca_room (kc' := 1) (ks' := 700) (by omega) (by omega) ?_
  refine ca_vreturn h hR dX10_init_18 ⟨rfl, ?_⟩
  replace np := NP_memA (μ' := μ2) np (Or.inl ⟨rfl, rfl, rfl⟩) (fun a b c _ => rfl) (z_b0.trans i_z12)
  exact NP_w np (by intro a b c; omega) (by intro a b c d z; first | trivial | omega) (by intro a b c j r d z e; have ej := ch_rt_j e; clear e; first | trivial | omega)
set_option maxHeartbeats 400000 in
theorem c_X8_init {l : Launch} {E : ch_E} {S : ch_S} {μ : ch_M}  (hv : S.2.1 15 16 0) (hz : μ 15 16 0 = fun _ => 0) (hf : ∀ a b c, (a = 15 ∧ 16 ≤ b ∧ b ≤ 19 ∧ c = 0) → ¬ (a = 15 ∧ b = 16 ∧ c = 0) → ¬ S.2.1 a b c) : ch_C E l yX8_init cX8_init 1 (Option.none : Option Jvm.ClassFile.FieldType) 3 3 20 S μ [.ref (S.1 15 16 0)] (c_Post S μ (fun a b c => (a = 15 ∧ 16 ≤ b ∧ b ≤ 19 ∧ c = 0))) := by
  refine ch_enter rfl rfl ?_
  intro X hl0 h hG hR hnm
  have h : ch_H X E RX8 cX8_init 1 := h
  have hb : ∀ {S' : ch_S}, S'.2.1 15 16 0 → ch_bs X E S' := fun z => Or.inr ⟨_, _, _, z⟩
  show ch_W X E 1 S μ 0 0 0 [(0, .ref (S.1 15 16 0))] []
  have np := NP_00 (μ := μ) hv
  obtain ⟨b0, e_b0⟩ : ∃ z, S.1 15 16 0 = z := ⟨_, rfl⟩
  rw [e_b0]
  have z_b0 := hz
  refine ca_aload_nr h dX8_init_0 rfl ?_
  refine ca_objI h hG kw_333 kw_32 kw_33 rfl rfl dX8_init_1 ?_
  refine ca_aload_nr h dX8_init_4 rfl ?_
  refine ca_newO h (ci := 6) 15 17 0 hG (hb (NP_v np (by omega))) rfl rfl li_X6 tyX6 tyX6_ok dvX6 rfl kw_334 kw_335 kw_9 ⟨by omega, by omega⟩ dX8_init_5 ?_
  intro q17
  obtain ⟨np', mv⟩ := NP_newO (q := q17) np (hf 15 17 0 (by (first | omega | (unfold PN0; omega) | simp)) (by omega)) (by show ¬ ((15) = 15 ∧ (17) = 16 ∧ (0) = 0); omega) (by show ¬ ((15) = (15) + 1); omega) (by intro j; show ¬ ((15) = (15) + 1); omega)
  replace e_b0 := mv 15 16 0 _ (NP_v np ⟨rfl, rfl, rfl⟩) e_b0
  have e_q17 := s_ad_s S 15 17 0 q17
  clear np mv
  generalize s_ad S 15 17 0 q17 = S1 at np' e_b0 e_q17 ⊢
  replace z_b0 := (ch_z_n (μ := μ) (k := 15) (kd := 17) (i := 0) (show ¬ (15 = 15 ∧ 16 = 17 ∧ 0 = 0) by omega)).trans z_b0
  generalize hz_ : ch_z μ 15 17 0 = μ1 at np' z_b0 ⊢
  have z_q17 : μ1 15 17 0 = fun _ => 0 := by rw [← hz_]; exact ch_z_0 _ _ _ _
  clear hz_
  have np := np'
  clear np'
  refine ca_dup h dX8_init_8 rfl ?_
  refine ca_tR e_q17 ?_
  refine ca_ctN h hG (List.mem_of_getElem? (i := 4) rfl) kw_337 kw_9 kw_338 ⟨by decide, by decide, by decide +kernel⟩ rfl (c_X6_init  (NP_v np (Or.inr ⟨rfl, rfl, rfl⟩)) (by exact z_q17) (fun a b c z z' => NP_nv np (hf a b c (by (first | omega | (unfold PN0; omega) | simp)) (by omega)) (fun y => by omega))) rfl rfl ⟨by omega, by omega⟩ rfl dX8_init_9 ?_
  intro S2 μ2 hp
  obtain ⟨np', mv⟩ := NP_callA np hp
  replace e_b0 := mv 15 16 0 _ (NP_v np (Or.inl ⟨rfl, rfl, rfl⟩)) e_b0
  replace e_q17 := mv 15 17 0 _ (NP_v np (Or.inr ⟨rfl, rfl, rfl⟩)) e_q17
  replace z_b0 := (hp.2.2.1 15 16 0 (by (first | omega | (unfold PN0; omega) | simp))).2.trans z_b0
  clear np mv hp
  have np := np'
  clear np'
  refine ca_putR (ci := 8) (j := 0) (ty := tyX8 0) h rfl rfl li_X8 tyX8 tyX8_ok nmX8 rfl (NP_v np (Or.inl (Or.inl ⟨rfl, rfl, rfl⟩))) e_b0 (by decide) rfl kw_355 rfl hnm rfl (tyX8_ok 0 (by decide)) rfl rfl dX8_init_12 ?_
  replace np := NP_rfA np (j := 0) (Or.inl (Or.inl ⟨rfl, rfl, rfl⟩)) (r := (15, 17, 0)) rfl (NP_v np (Or.inl (Or.inr ⟨rfl, rfl, rfl⟩))) e_q17
  replace e_b0 : (s_rf S2 15 16 0 0 q17).1 15 16 0 = b0 := e_b0
  replace e_q17 : (s_rf S2 15 16 0 0 q17).1 15 17 0 = q17 := e_q17
  generalize s_rf S2 15 16 0 0 q17 = S3 at np e_b0 e_q17 ⊢
  refine ca_room (kc' := 3) (ks' := 20) (by omega) (by omega) ?_
  refine ca_vreturn h hR dX8_init_15 ⟨rfl, ?_⟩
  replace np := NP_memA (μ' := μ2) np (Or.inl (Or.inl ⟨rfl, rfl, rfl⟩)) (fun a b c _ => rfl) (z_b0.trans i_z16)
  exact NP_w np (by intro a b c; omega) (by intro a b c d z; first | trivial | omega) (by intro a b c j r d z e; have ej := ch_rt_j e; clear e; first | trivial | omega)
