set_option maxHeartbeats 1000000 in
theorem lw_all {X : ch_X} {E : ch_E}  {S S0 : ch_S} {μ μ0 : ch_M} (h : ch_H X E RL cL_law 12) (hG : ch_G X 10 687974 7037776) (kend : ∀ (S : ch_S) (μ : ch_M) (L : List (Nat × Value)), ch_W X E 12 S μ 687974 7037776 486 L [.int 1]) (kend1 : ∀ (S : ch_S) (μ : ch_M) (L : List (Nat × Value)), ch_W X E 12 S μ 687974 7037776 69 L [.int 1]) (hbs : E.1 ≤ (x_s X).heap.size) (h0 : ∀ a b c, ¬ S.2.1 a b c) : ch_W X E 12 S μ 0 0 0 [(0, .ref (ch_sb E))] [] := by
  refine oa_newO 15 11 0 h (ci := 11) hG (Or.inl hbs) rfl rfl li_X11 tyX11 tyX11_ok dvX11 rfl kw_26 kw_27 kw_1 ⟨by omega, by omega⟩ dL_law_0 ?_
  intro S1 μ1 hw
  have hz : μ1 15 11 0 = fun _ => 0 := by funext j; exact (hw.2.1 j).1
  have hnn : ∀ a b c, S1.2.1 a b c → a = 15 ∧ b = 11 ∧ c = 0 := fun a b c z => Classical.byContradiction fun g => h0 a b c ((hw.2.2 a b c g).2.1.mp z)
  show ch_W X E 12 S1 μ1 _ _ _ _ _
  refine ca_dup h dL_law_3 rfl ?_
  refine ca_callI h hG kw_28 kw_29 kw_1 kw_30 (n := 0) ⟨by decide, by decide, by decide +kernel⟩ rfl (c_X11_init hw.1 hz (fun a b c _ y z => y (hnn a b c z))) rfl rfl rfl rfl ⟨by omega, by omega⟩ rfl dL_law_4 ?_
  intro v S2 μ2 hp
  obtain ⟨rfl, hnp⟩ := hp
  rw [← hnp.2.1 15 11 0 hw.1]
  have hs2 : ch_Std E S2 := lw_Std hnp
  have hi2 : ∀ a b c, lw_PX a b c → μ2 a b c = i_0 b := fun a b c z => hnp.2.2.2.1 a b c z trivial
  have h18 : ∀ kd i, ¬ S2.2.1 18 kd i := fun kd i => NP_nv hnp (fun z => absurd (hnn 18 kd i z).1 (by decide)) (fun z => z.elim (fun y => absurd y.1 (by decide)) (fun y => absurd y.1 (by decide)))
  show ch_W X E 12 S2 μ2 _ _ _ _ (.ref (S2.1 15 11 0) :: _)
  refine ca_astore_n h dL_law_7 rfl ?_
  refine ca_bipush h dL_law_8 bk_6 ?_
  refine oa_newI 19 46 0 (n := 6) h hG (Or.inl hbs) rfl kw_67 rfl (by omega) ⟨by omega, by omega⟩ dL_law_10 ?_
  intro S3 μ3 hw3
  rw [← (hw3.2.2 15 11 0 (by omega)).1]
  have hs3 : ch_Std E S3 := std_fr hs2 (fun k hk => ⟨o_nw_a hw3 (by omega), o_nw_v hw3 (by omega), o_nw_r hw3 (by omega)⟩)
  show ch_W X E 12 S3 μ3 _ _ _ _ (.ref (S3.1 19 46 0) :: _)
  refine ca_astore_n h dL_law_12 rfl ?_
  refine ca_widen (k := 1980) (n := 25900) (by omega) (by omega) ?_
  exact ca_pick [2, 1, 0] rfl (c_lawG (S0 := S3) (μ0 := μ3) h hG kend kend1 hs3 hw3.1 ⟨0, fun kd i _ => by rw [o_nw_v hw3 (by decide)]; exact h18 kd i⟩ (fun a b c z => by rw [o_nw_m hw3 (by rcases z with z | z <;> omega)]; exact hi2 a b c z) (fun j => (hw3.2.1 j).1))
