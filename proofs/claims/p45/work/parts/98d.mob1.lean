/-! A MOBILE MADE -/
def o_MI (m : Nat) (S : ch_S) (μ : ch_M) (S' : ch_S) (μ' : ch_M) : Prop :=
  (∀ k, k ≠ 16 → k ≠ 18 → S'.1 k = S.1 k ∧ S'.2.1 k = S.2.1 k ∧ S'.2.2 k = S.2.2 k ∧ μ' k = μ k) ∧
  (∀ kd i, S.2.1 18 kd i → S'.2.1 18 kd i ∧ S'.1 18 kd i = S.1 18 kd i ∧ μ' 18 kd i = μ 18 kd i) ∧ (∃ F, ∀ kd i, F ≤ i → ¬ S'.2.1 18 kd i) ∧
  (∀ kd i, ¬ (kd = 48 ∧ i = 40 + m) → ¬ (kd = 24 ∧ i = 8 + m) → S'.1 16 kd i = S.1 16 kd i ∧ (S'.2.1 16 kd i ↔ S.2.1 16 kd i) ∧ (¬ (kd = 23 ∧ i = m) → S'.2.2 16 kd i = S.2.2 16 kd i ∧ μ' 16 kd i = μ 16 kd i)) ∧
  (S'.2.1 16 48 (40 + m) ∧ S'.2.1 16 24 (8 + m) ∧ S'.2.2 16 23 m 11 = some (S'.1 16 48 (40 + m)) ∧ S'.2.2 16 23 m 12 = some (S'.1 16 24 (8 + m))) ∧
  (∀ f, μ' 16 23 m f = if f = 5 ∨ f = 8 then -1 else μ 16 23 m f) ∧ (∀ c, μ' 16 48 (40 + m) c = 0) ∧ ∀ c, c < 8 → ∃ id, S'.2.1 18 40 id ∧ S'.2.2 16 24 (8 + m) c = some (S'.1 18 40 id)
def o_PI (m : Nat) (S : ch_S) (μ : ch_M) : Option Value → ch_S → ch_M → Prop := fun v' S' μ' => v' = none ∧ o_MI m S μ S' μ'
theorem o_PI_mk {m F : Nat} {S S1 S2 S3 S4 : ch_S} {μ μ1 μ3 : ch_M} (hF : ∀ kd i, F ≤ i → ¬ S.2.1 18 kd i) (w1 : o_nw 16 48 (40 + m) S (ch_st (ch_st μ 16 23 m 5 (-1)) 16 23 m 8 (-1)) S1 μ1) (r1 : o_rfd 16 23 m 11 (S1.1 16 48 (40 + m)) S1 S2)
    (w3 : o_mn 16 24 (8 + m) 18 40 F 8 S2 μ1 S3 μ3) (r3 : o_rfd 16 23 m 12 (S3.1 16 24 (8 + m)) S3 S4) : o_MI m S μ S4 μ3 := by
  have st : ∀ a b c, ¬ (a = 16 ∧ b = 23 ∧ c = m) → ch_st (ch_st μ 16 23 m 5 (-1)) 16 23 m 8 (-1) a b c = μ a b c := fun a b c h => (ch_st_ne h).trans (ch_st_ne h)
  obtain ⟨a1, a2, a3, a4⟩ := r1
  obtain ⟨b1, b2, b3, b4⟩ := r3
  -- a name away from all that was made
  have away : ∀ a b c, ¬ (a = 16 ∧ b = 48 ∧ c = 40 + m) → ¬ (a = 16 ∧ b = 24 ∧ c = 8 + m) → ¬ (a = 18 ∧ b = 40 ∧ F ≤ c ∧ c < F + 8) → S4.1 a b c = S.1 a b c ∧ (S4.2.1 a b c ↔ S.2.1 a b c) ∧ (¬ (a = 16 ∧ b = 23 ∧ c = m) → S4.2.2 a b c = S.2.2 a b c ∧ μ3 a b c = μ a b c) := fun a b c h1 h2 h3 => by
    obtain ⟨p1, p2, p3, p4⟩ := w3.2.2 a b c h2 h3
    obtain ⟨q1, q2, q3, q4⟩ := w1.2.2 a b c h1
    refine ⟨by rw [b1, p1, a1, q1], by rw [b2, p2, a2, q2], fun h4 => ⟨?_, by rw [p4, q4, st a b c h4]⟩⟩
    funext d
    rw [b4 a b c d (fun z => h4 ⟨z.1, z.2.1, z.2.2.1⟩), p3, a4 a b c d (fun z => h4 ⟨z.1, z.2.1, z.2.2.1⟩), q3]
  have p48 := w3.2.2 16 48 (40 + m) (by omega) (by omega)
  have p23 := w3.2.2 16 23 m (by omega) (by omega)
  have q23 := w1.2.2 16 23 m (by omega)
  refine ⟨fun k h16 h18 => ?_, fun kd i hv => ?_, ⟨F + 8, fun kd i hi z => ?_⟩, fun kd i h1 h2 => ?_, ⟨?_, by rw [b2]; exact w3.1, ?_, by rw [b3, b1]⟩, fun f => ?_, fun c => ?_, fun c hc => ?_⟩
  · have g : ∀ b c, _ := fun b c => away k b c (fun z => h16 z.1) (fun z => h16 z.1) (fun z => h18 z.1)
    refine ⟨?_, ?_, ?_, ?_⟩
    · funext b c; exact (g b c).1
    · funext b c; exact propext (g b c).2.1
    · funext b c; exact ((g b c).2.2 (fun z => h16 z.1)).1
    · funext b c; exact ((g b c).2.2 (fun z => h16 z.1)).2
  · have g := away 18 kd i (by omega) (by omega) (fun z => hF kd i z.2.2.1 hv)
    exact ⟨g.2.1.mpr hv, g.1, (g.2.2 (by omega)).2⟩
  · exact hF kd i (by omega) ((away 18 kd i (by omega) (by omega) (by omega)).2.1.mp z)
  · have g := away 16 kd i (fun z => h1 z.2) (fun z => h2 z.2) (by omega)
    exact ⟨g.1, g.2.1, fun z => g.2.2 (fun y => z y.2)⟩
  · rw [b2]; exact p48.2.1.mpr (by rw [a2]; exact w1.1)
  · rw [b4 16 23 m 11 (by omega), p23.2.2.1, a3, b1, p48.1, a1]
  · rw [p23.2.2.2, q23.2.2.2, ch_st_at]
    by_cases e8 : f = 8
    · rw [if_pos ⟨rfl, rfl, rfl, e8⟩, if_pos (Or.inr e8)]
    · rw [if_neg (fun z => e8 z.2.2.2), ch_st_at]
      by_cases e5 : f = 5
      · rw [if_pos ⟨rfl, rfl, rfl, e5⟩, if_pos (Or.inl e5)]
      · rw [if_neg (fun z => e5 z.2.2.2), if_neg (fun z => z.elim e5 e8)]
  · rw [p48.2.2.2]; exact (w1.2.1 c).1
  · obtain ⟨g1, g2, -⟩ := w3.2.1 c hc
    exact ⟨F + c, by rw [b2]; exact g1, by rw [b4 16 24 (8 + m) c (by omega), b1]; exact g2⟩
set_option maxHeartbeats 400000 in
theorem c_X12_init {l : Launch} {E : ch_E} {S : ch_S} {μ : ch_M} {m : Nat} (hm : S.2.1 16 23 m) (hF : ∃ F, ∀ kd i, F ≤ i → ¬ S.2.1 18 kd i) : ch_C E l yX12_init cX12_init 1 none 2 10 16 S μ [.ref (S.1 16 23 m)] (o_PI m S μ) := by
  refine ch_enter rfl rfl ?_
  intro X hl0 h hG hR hnm
  have h : ch_H X E RX12 cX12_init 1 := h
  show ch_W X E 1 S μ 0 0 0 [(0, .ref (S.1 16 23 m))] []
  refine ca_aload_nr h dX12_init_0 rfl ?_
  refine ca_objI h hG kw_1044 kw_32 kw_33 rfl rfl dX12_init_1 ?_
  refine ca_aload_nr h dX12_init_4 rfl ?_
  refine ca_iconst h dX12_init_5 ik_m1 ?_
  refine pi_X12_7 h hm dX12_init_6 ?_
  refine ca_aload_nr h dX12_init_9 rfl ?_
  refine ca_iconst h dX12_init_10 ik_m1 ?_
  refine pi_X12_13 h hm dX12_init_11 ?_
  obtain ⟨S0, rfl⟩ : ∃ z, z = S := ⟨_, rfl⟩
  obtain ⟨μ0, rfl⟩ : ∃ z, z = μ := ⟨_, rfl⟩
  obtain ⟨F, hF⟩ := hF
  refine ca_aload_nr h dX12_init_14 rfl ?_
  refine ca_bipush h dX12_init_15 bk_8 ?_
  refine oa_newI 16 48 (40 + m) (n := 8) h hG (Or.inr ⟨16, 23, m, hm⟩) rfl kw_67 rfl (by decide) ⟨by omega, by omega⟩ dX12_init_17 ?_
  intro S1 μ1 hw1
  have e1 := hw1.2.2 16 23 m (by omega)
  rw [← e1.1]
  replace hm := e1.2.1.mpr hm
  refine pr_X12_16 h hm dX12_init_19 ?_
  have hr1 := o_rfd_mk 16 23 m 11 (S1.1 16 48 (40 + m)) S1
  generalize s_rf S1 16 23 m 11 (S1.1 16 48 (40 + m)) = S2 at hr1 ⊢
  rw [← hr1.1]
  replace hm : S2.2.1 16 23 m := by rw [hr1.2.1]; exact hm
  refine ca_aload_nr h dX12_init_22 rfl ?_
  refine ca_bipush h dX12_init_23 bk_8 ?_
  refine ca_iconst h dX12_init_25 ik_0 ?_
  refine oa_mna 16 24 (8 + m) 18 40 F (by decide) h (N := 8) (K := 0) hG (Or.inr ⟨16, 23, m, hm⟩) rfl rfl kw_1045 kw_67 rfl rfl (by omega) (by omega) ⟨by omega, by omega⟩ dX12_init_26 ?_
  intro S3 μ3 hw3
  have e3 := hw3.2.2 16 23 m (by omega) (by omega)
  rw [← e3.1]
  replace hm := e3.2.1.mpr hm
  refine pr_X12_22 h hm dX12_init_30 ?_
  have hr3 := o_rfd_mk 16 23 m 12 (S3.1 16 24 (8 + m)) S3
  generalize s_rf S3 16 23 m 12 (S3.1 16 24 (8 + m)) = S4 at hr3 ⊢
  refine ca_widen (k := 10) (n := 16) (by omega) (by omega) ?_
  refine ca_vreturn h hR dX12_init_33 ?_
  exact ⟨rfl, o_PI_mk hF hw1 hr1 hw3 hr3⟩
