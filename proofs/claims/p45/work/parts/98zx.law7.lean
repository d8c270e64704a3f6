/-! THE LAW FROM ITS ENTRY -/
theorem tick_e {n q : ch_N} (hm : k_mc n = 0) (hc : k_cc n = 0) : (k_tick (n, q)).1 = nw n 0 0 3 (n 0 0 3 + 1) := by
  have e1 : k_t1 n = n := by
    unfold k_t1
    dsimp only
    have z : ∀ (f : Nat → ch_N → ch_N), kf f 0 n = n := fun _ => rfl
    rw [hm, z s_mv, hm, z s_ms, hm, z s_fin, hm, z s_dr, hc, z s_sv]
  have e2 : (kf s_dc (k_mc n) (n, q)).1 = n := by rw [hm]; rfl
  have e3 : k_t3 n = nw n 0 0 3 (n 0 0 3 + 1) := by
    unfold k_t3
    dsimp only
    have z : ∀ (f : Nat → ch_N → ch_N), kf f 0 n = n := fun _ => rfl
    rw [hc, z s_cg, hm, z s_ex]
  unfold k_tick
  dsimp only
  rw [e1, e2, e3]
theorem adv_e : ∀ (N : Nat) (s : ch_N × ch_N), k_mc s.1 = 0 → k_cc s.1 = 0 → ∀ kd, kd ≠ 0 → (k_adv N s).1 kd = s.1 kd
  | 0, _, _, _, _, _ => rfl
  | N + 1, s, hm, hc, kd, hk => by
    have ih := adv_e N s hm hc kd hk
    have am : k_mc (k_adv N s).1 = 0 := by unfold k_mc at hm ⊢; rw [adv_00 2 (by decide)]; exact hm
    have ac : k_cc (k_adv N s).1 = 0 := by unfold k_cc at hc ⊢; rw [adv_00 0 (by decide)]; exact hc
    show (k_tick (k_adv N s)).1 kd = _
    generalize k_adv N s = t at ih am ac ⊢
    obtain ⟨a, b⟩ := t
    rw [tick_e am ac, nw_k hk]
    exact ih
abbrev lw_PX (a b c : Nat) : Prop := (a = 15 ∧ 11 ≤ b ∧ b ≤ 21 ∧ c = 0) ∨ (a < 15 ∧ PN0 b c)
theorem lw_V {a b c : Nat} (h : ch_V a b c) : lw_PX a b c := by
  unfold ch_V at h
  split at h
  all_goals first
    | exact h.elim
    | exact Or.inl ⟨h.1, by decide, by decide, h.2⟩
    | exact Or.inr ⟨h.1, by unfold PN0; omega⟩
theorem lw_Std {E : ch_E} {S1 S2 : ch_S} {μ1 μ2 : ch_M} (h : NP S1 S2 μ1 μ2 lw_PX NPT NPR) : ch_Std E S2 :=
  ⟨fun k kd i hv => NP_v h (lw_V hv), fun k kd i j a hv hr => (h.2.2.2.2 k kd i j a (lw_V hv) trivial hr).2, trivial⟩
set_option maxHeartbeats 600000 in
theorem c_lawG {X : ch_X} {E : ch_E}  {S S0 : ch_S} {μ μ0 : ch_M} (h : ch_H X E RL cL_law 12) (hG : ch_G X 10 687974 7037776) (kend : ∀ (S : ch_S) (μ : ch_M) (L : List (Nat × Value)), ch_W X E 12 S μ 687974 7037776 486 L [.int 1]) (kend1 : ∀ (S : ch_S) (μ : ch_M) (L : List (Nat × Value)), ch_W X E 12 S μ 687974 7037776 69 L [.int 1]) (hs : ch_Std E S) (hv19 : S.2.1 19 46 0) (hF : ∃ F, ∀ kd i, F ≤ i → ¬ S.2.1 18 kd i) (hi : ∀ a b c, lw_PX a b c → μ a b c = i_0 b) (hw0 : ∀ j, μ 19 46 0 j = 0) : ch_W X E 12 S μ 1980 25900 13 [(0, .ref (ch_sb E)), (1, .ref (S.1 15 11 0)), (2, .ref (S.1 19 46 0))] [] := by
  have n00 : ∀ k, k < 15 → μ k 0 0 = i_0 0 := fun k hk => hi k 0 0 (Or.inr ⟨hk, by unfold PN0; omega⟩)
  have hm0 : k_mc (μ 0) = 0 := by unfold k_mc; rw [n00 0 (by decide)]; rfl
  have hc0 : k_cc (μ 0) = 0 := by unfold k_cc; rw [n00 0 (by decide)]; rfl
  have c8 : ∀ k, k < 15 → k_c8 (μ k) := fun k hk i c hi' hc => by
    rw [hi k 5 i (Or.inr ⟨hk, by unfold PN0; omega⟩)]
    show ¬ (0 : Int32) < 0 ∧ Int32.toNatClampNeg 0 ≤ 8
    decide
  have m0 : ∀ k, k < 15 → k_m0 (μ k) := fun k hk m hm _ => by rw [hi k 3 m (Or.inr ⟨hk, by unfold PN0; omega⟩)]; rfl
  have hw : k_wf (μ 0) := by
    unfold k_wf
    rw [hm0, hc0, n00 0 (by decide)]
    exact ⟨by omega, by omega, by decide, by decide, by decide, fun i c hi' hc => ⟨(c8 0 (by decide) i c hi' hc).1, (c8 0 (by decide) i c hi' hc).2, fun z => absurd z (Nat.not_lt_zero _)⟩⟩
  have q15 : ∀ b, 11 ≤ b → b ≤ 21 → μ 15 b 0 = i_0 b := fun b h1 h2 => hi 15 b 0 (Or.inl ⟨rfl, h1, h2, rfl⟩)
  have hu : μ 15 14 0 0 = nI 0 := by rw [q15 14 (by decide) (by decide)]; rfl
  have hnx : μ 15 14 0 1 = nI 0 := by rw [q15 14 (by decide) (by decide)]; rfl
  have hl : μ 15 12 0 0 = nI 0 := by rw [q15 12 (by decide) (by decide)]; rfl
  have hck : μ 0 0 0 3 = nI 0 := by rw [n00 0 (by decide)]; rfl
  have hwN : k_wf (k_adv 60 (μ 0, k_rec (μ 15))).1 := k_adv_wf 60 (μ 0, k_rec (μ 15)) hw
  have h70 : (k_adv 60 (μ 0, k_rec (μ 15))).1 7 = μ 0 7 := adv_e 60 (μ 0, k_rec (μ 15)) hm0 hc0 7 (by decide)
  have hckN : (k_adv 60 (μ 0, k_rec (μ 15))).1 0 0 3 = 60 := (adv_03 60 (μ 0, k_rec (μ 15))).trans (by show μ 0 0 0 3 + nI 60 = 60; rw [hck]; decide)
  have hqN : ∀ kd, kd ≤ 16 → (k_adv 60 (μ 0, k_rec (μ 15))).2 kd = k_rec (μ 15) kd := fun kd h => k_adv_k h 60 (μ 0, k_rec (μ 15))
  have hrun := c_X11_run (l := x_l X) (T := 60) hs hw (by decide) (k_tk9_nI (M := 60) hck (by decide) (by decide) (by decide)) (j := 0) (by decide) hnx
  generalize k_adv 60 (μ 0, k_rec (μ 15)) = NQ at hwN h70 hckN hqN hrun
  have hR1 := R1_mk (x := 12) (N := NQ.1) (q := NQ.2) (u := 0) (j := 0) (by decide) hu (by decide) hnx ((hqN 11 (by decide)).trans (rec_k (by decide))) (hqN 14 (by decide))
  have hcR := R1_c8 hR1 c8 (c8_wf hwN)
  have hRk : up (up (k_rcm μ 0) 0 NQ.1) 15 NQ.2 15 = NQ.2 := up_s _ _ _
  obtain ⟨g0, g1, g2, gi, g16, g11, gu, gj, gc⟩ := undo_1 hR1 (by decide) hcR
  obtain ⟨μ2, hμ2⟩ : ∃ z, z = up (up (k_rcm μ 0) 0 NQ.1) 15 NQ.2 := ⟨_, rfl⟩
  rw [← hμ2] at hR1 hcR hRk g0 g1 g2 gi g16 g11 gu gj gc hrun
  have e12 : up (up μ2 0 (k_cp (μ2 0) (μ2 (3 + k_lx ((0 + 1) % 12))))) 15 (k_tkb (μ2 15) ((0 + 1) % 12)) 15 12 = μ 15 12 := by
    rw [up_s]
    unfold k_tkb
    rw [nw_k (by decide), nw_k (by decide), hRk, hqN 12 (by decide)]
    exact rec_k (by decide)
  obtain ⟨μ3, hμ3⟩ : ∃ z, z = up (up μ2 0 (k_cp (μ2 0) (μ2 (3 + k_lx ((0 + 1) % 12))))) 15 (k_tkb (μ2 15) ((0 + 1) % 12)) := ⟨_, rfl⟩
  rw [← hμ3] at g0 g1 g2 gi g16 g11 gu gj gc e12
  refine ca_aload_nr h dL_law_13 rfl ?_
  refine ca_bipush h dL_law_14 bk_60 ?_
  refine oa_v h hG ml_L_245 hrun (ci := 11) rfl rfl rfl (hs.1 _ _ _ ⟨rfl, rfl⟩) rfl rfl rfl rfl ⟨by omega, by omega⟩ rfl dL_law_16 ?_
  rw [h70, Int32.sub_self]
  refine ca_if_ne (tgt := 45) h dL_law_19 (by decide) (fun c_19 => ?_) (fun c_19 => ?_)
  · exact absurd rfl c_19
  ·
    refine ca_aload_nr h dL_law_22 rfl ?_
    refine oa_v h hG ml_L_108 (c_X11_clock hs) (ci := 11) rfl rfl rfl (hs.1 _ _ _ ⟨rfl, rfl⟩) rfl rfl rfl rfl ⟨by omega, by omega⟩ rfl dL_law_23 ?_
    rw [hR1.1, hckN]
    refine ca_bipush h dL_law_26 bk_60 ?_
    refine ca_icmp_ne (tgt := 45) h dL_law_28 (by decide) (fun c_28 => ?_) (fun c_28 => ?_)
    · exact absurd rfl c_28
    ·
      refine ca_aload_nr h dL_law_31 rfl ?_
      refine oa_v h hG ml_L_258 (c_X11_undo hs (v := 0) (by decide) hR1.2.2.2.2.2.2.2.1 (j := (0 + 1) % 12) (by decide) hR1.2.2.2.2.2.2.2.2) (ci := 11) rfl rfl rfl (hs.1 _ _ _ ⟨rfl, rfl⟩) rfl rfl rfl rfl ⟨by omega, by omega⟩ rfl dL_law_32 ?_
      rw [← hμ3]
      refine ca_top (y := 0) rfl ?_
      refine ca_if_ne (tgt := 45) h dL_law_35 (by decide) (fun c_35 => ?_) (fun c_35 => ?_)
      · exact absurd rfl c_35
      ·
        refine ca_aload_nr h dL_law_38 rfl ?_
        refine oa_v h hG ml_L_108 (c_X11_clock hs) (ci := 11) rfl rfl rfl (hs.1 _ _ _ ⟨rfl, rfl⟩) rfl rfl rfl rfl ⟨by omega, by omega⟩ rfl dL_law_39 ?_
        rw [ag_0 g0 (by decide), hck]
        refine ca_top (y := 0) rfl ?_
        refine ca_if_eq (tgt := 47) h dL_law_42 (by decide) (fun c_42 => ?_) (fun c_42 => ?_)
        ·
          refine ca_aload_nr h dL_law_47 rfl ?_
          refine ca_iconst h dL_law_48 ik_0 ?_
          refine oa_S h hG ms_L_265 (c_L_drawn (by exact hv19) hF) rfl rfl rfl rfl ⟨by omega, by omega⟩ rfl dL_law_49 ?_
          intro v S5 μ5 hp
          obtain ⟨hv, hy, sv, hD, hk, h6⟩ := hp
          cases hv
          have q5 : ∀ k, k ≠ 16 → μ5 k = μ3 k := fun k h => (hD.1 k h).2.2.2
          rw [← (hD.1 15 (by decide)).1, ← (hD.1 19 (by decide)).1]
          have hs5 : ch_Std E S5 := std_fr hs (fun k hk => ⟨(hD.1 k (by omega)).1, (hD.1 k (by omega)).2.1, (hD.1 k (by omega)).2.2.1⟩)
          have hv5 : S5.2.1 19 46 0 := by rw [(hD.1 19 (by decide)).2.1]; exact hv19
          have hW5 : o_w [] μ5 := by
            unfold o_w
            rw [q5 19 (by decide), q5 15 (by decide), g16 19 (by decide), e12]
            refine ⟨fun x hx => (List.not_mem_nil hx).elim, by rw [hw0]; rfl, fun j i _ hi => by rw [hw0, p_B_0 i hi]; rfl, 0, by decide, Or.inr rfl, by decide, by rw [hl], fun i hi => absurd hi (Nat.not_lt_zero _)⟩
          show ch_W X E 12 S5 μ5 _ _ _ _ (.ref (S5.1 16 22 0) :: _)
          refine ca_astore_n h dL_law_52 rfl ?_
          refine ca_aload_nr h dL_law_53 rfl ?_
          refine ca_aload_nr h dL_law_54 rfl ?_
          refine ca_aload_nr h dL_law_55 rfl ?_
          refine oa_S h hG ms_L_269 (c_L_tell hs5 hv5 (o_dS_fr hD rfl rfl rfl rfl rfl) hk h6 ⟨by rw [q5 0 (by decide)]; exact gc 0 (by decide), by rw [q5 1 (by decide), g1]; exact c8 1 (by decide), by rw [q5 1 (by decide), g1]; exact m0 1 (by decide)⟩ hW5) rfl rfl rfl rfl ⟨by omega, by omega⟩ rfl dL_law_56 ?_
          intro v S6 μ6 hp
          rcases hp with hv | ⟨hv, hs6, hnm, ⟨hy', sv', hD6, hk6, h66, hLD⟩, hk2, ⟨hc0', hc1', hm0'⟩, hu6, hj6⟩
          · cases hv
            refine ca_widen (k := 2090) (n := 26900) (by omega) (by omega) ?_
            exact ca_pick [1] rfl (c_lawN (S0 := S6) (μ := μ6) (μ0 := μ6) h hG kend1)
          · cases hv
            rw [← (hnm 15 11 0 (by omega) (by decide)).1, ← (hnm 16 22 0 (by omega) (by decide)).1]
            refine ca_widen (k := 2090) (n := 26900) (by omega) (by omega) ?_
            exact ca_pick [1, 2, 0] rfl (c_lawP (S0 := S6) (μ0 := μ6) (j := 0) h hG kend hs6 hD6 hk6 h66 hLD (fun k hk => by
              by_cases z0 : k = 0
              · rw [z0]; exact hc0'
              · by_cases z1 : k = 1
                · rw [z1]; exact hc1'
                · rw [hk2 k (by omega) hk, q5 k (by omega)]; exact gc k hk) hm0' hu6 (by decide) (by rw [hj6, q5 15 (by decide)]; exact gj))
        · exact absurd rfl c_42
