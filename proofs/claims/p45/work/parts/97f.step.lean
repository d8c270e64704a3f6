set_option maxHeartbeats 1000000 in
theorem c_X13_step {l : Launch} {E : ch_E} {S : ch_S} {μ : ch_M} {n : ch_N} {w : Nat → Int32} (hN : o_NW n w S μ) (hKG : k_G n) (hQ : o_Q n) {q : ch_N} (hck : ¬ 100000 < n 0 0 3 + 1) : ch_C E l yX13_step cX13_step 7 none 4 984 2112 S μ [.ref (S.1 16 22 0)] (o_PS none (k_tick (n, q)).1 S μ) := by
  refine ch_enter rfl rfl ?_
  intro X hl0 h hG hR hnm
  have h : ch_H X E RX13 cX13_step 7 := h
  have hm12 := hN.m12
  have hc8 := hN.c8
  have hN0 := hN.rn
  show ch_W X E 7 S μ 0 0 0 [(0, .ref (S.1 16 22 0))] []
  refine ca_iconst h dX13_step_0 ik_0 ?_
  refine ca_istore_n h dX13_step_1 rfl ?_
  obtain ⟨S0, rfl⟩ : ∃ z, z = S := ⟨_, rfl⟩
  obtain ⟨μ0, rfl⟩ : ∃ z, z = μ := ⟨_, rfl⟩
  have loop_2 : ∀ (jj j : Nat), j + jj = k_mc n → ∀ (S : ch_S) (μ : ch_M) (w : Nat → Int32) (hN : o_NW (kf s_mv j n) w S μ) (hf : o_fr S0 μ0 S μ), ch_W X E 7 S μ 0 0 2 [(0, .ref (S.1 16 22 0)), (1, .int (nI j))] [] := by
    intro jj
    induction jj with
    | zero =>
      intro j hn S μ w hN hf
      have hn : j = k_mc n := by omega
      obtain ⟨nj, hnj⟩ : ∃ z, z = kf s_mv j n := ⟨_, rfl⟩
      rw [← hnj] at hN
      have e0j : nj 0 = n 0 := by rw [hnj]; exact kf_0 k_mv_0 _ n
      have emm : k_mc nj = k_mc n := k_mc_0 e0j
      have ecc : k_cc nj = k_cc n := k_cc_0 e0j
      refine ca_iload_n h dX13_step_2 rfl ?_
      refine ca_aload_nr h dX13_step_3 rfl ?_
      refine gi_X13_60 h (hN.st.1 _ _ _ (by show _ ∧ _; omega)) dX13_step_4 ?_
      refine ca_top (y := nI (k_mc n)) (hN.many.trans (by rw [emm])) ?_
      refine ca_icmp_ge (tgt := 107) h dX13_step_7 (by decide) (fun c_7 => ?_) (fun c_7 => ?_)
      ·
        obtain ⟨n1, en1⟩ : ∃ z, z = kf s_mv (k_mc n) n := ⟨_, rfl⟩
        have hN : o_NW n1 w S μ := by rw [en1, ← hn, ← hnj]; exact hN
        have z1 : n1 0 = n 0 := by rw [en1]; exact kf_0 k_mv_0 _ n
        refine ca_iconst h dX13_step_107 ik_0 ?_
        refine ca_istore_n h dX13_step_108 rfl ?_
        have loop_109 : ∀ (jj j : Nat), j + jj = k_mc n → ∀ (S : ch_S) (μ : ch_M) (w : Nat → Int32) (hN : o_NW (kf s_ms j n1) w S μ) (hf : o_fr S0 μ0 S μ) (hPj : r_P (kf s_ms j n1) j), ch_W X E 7 S μ (8 * j) (64 * j) 109 [(0, .ref (S.1 16 22 0)), (1, .int (nI j))] [] := by
          intro jj
          induction jj with
          | zero =>
            intro j hn S μ w hN hf hPj
            have hn : j = k_mc n := by omega
            obtain ⟨nj, hnj⟩ : ∃ z, z = kf s_ms j n1 := ⟨_, rfl⟩
            rw [← hnj] at hN
            have e0j : nj 0 = n 0 := by rw [hnj]; exact (kf_0 s_ms_0 _ n1).trans z1
            have emm : k_mc nj = k_mc n := k_mc_0 e0j
            have ecc : k_cc nj = k_cc n := k_cc_0 e0j
            rw [← hnj] at hPj
            refine ca_iload_n h dX13_step_109 rfl ?_
            refine ca_aload_nr h dX13_step_110 rfl ?_
            refine gi_X13_60 h (hN.st.1 _ _ _ (by show _ ∧ _; omega)) dX13_step_111 ?_
            refine ca_top (y := nI (k_mc n)) (hN.many.trans (by rw [emm])) ?_
            refine ca_icmp_ge (tgt := 288) h dX13_step_114 (by decide) (fun c_114 => ?_) (fun c_114 => ?_)
            ·
              obtain ⟨n2, en2⟩ : ∃ z, z = kf s_ms (k_mc n) n1 := ⟨_, rfl⟩
              have hN : o_NW n2 w S μ := by rw [en2, ← hn, ← hnj]; exact hN
              have z2 : n2 0 = n 0 := by rw [en2]; exact (kf_0 s_ms_0 _ n1).trans z1
              have hP2 : r_P n2 (k_mc n) := by rw [en2, ← hn, ← hnj]; rw [hn] at hPj ⊢; exact hPj
              refine ca_widen (k := 96) (n := 768) (by omega) (by omega) ?_
              refine ca_pick [0] rfl ?_
              exact c_stepB h hG hR hm12 hc8 ⟨hN0.2.1.2.1.1, hN0.2.1.2.1.2.1⟩ hck hN hf z2 hKG (by rw [en2, en1]; exact o_Q_rl hQ (o_rl_tr (o_rl_kf o_rl_mv _ _) (o_rl_kf o_rl_ms _ _))) hP2 (by
                unfold k_t1
                dsimp only
                rw [← en1, k_mc_0 z1, ← en2, k_mc_0 z2, k_mc_0 ((kf_0 s_fin_0 _ n2).trans z2), k_cc_0 ((kf_0 s_dr_0 _ _).trans ((kf_0 s_fin_0 _ n2).trans z2))])
            · exact absurd c_114 (by rw [hn]; exact Int32.lt_irrefl)
          | succ jj ih_109 =>
            intro j hn S μ w hN hf hPj
            have hn1 : j < k_mc n := by omega
            obtain ⟨nj, hnj⟩ : ∃ z, z = kf s_ms j n1 := ⟨_, rfl⟩
            rw [← hnj] at hN
            have e0j : nj 0 = n 0 := by rw [hnj]; exact (kf_0 s_ms_0 _ n1).trans z1
            have emm : k_mc nj = k_mc n := k_mc_0 e0j
            have ecc : k_cc nj = k_cc n := k_cc_0 e0j
            rw [← hnj] at hPj
            have hPn := r_P_ms hN.rn (show j < k_mc nj by omega) hPj
            have hjm : j < k_mc nj := by omega
            refine ca_iload_n h dX13_step_109 rfl ?_
            refine ca_aload_nr h dX13_step_110 rfl ?_
            refine gi_X13_60 h (hN.st.1 _ _ _ (by show _ ∧ _; omega)) dX13_step_111 ?_
            refine ca_top (y := nI (k_mc n)) (hN.many.trans (by rw [emm])) ?_
            refine ca_icmp_ge (tgt := 288) h dX13_step_114 (by decide) (fun c_114 => ?_) (fun c_114 => ?_)
            · exact absurd (nI_lt hn1 (by omega)) c_114
            ·
              refine ca_aload_nr h dX13_step_117 rfl ?_
              refine gr_X13_52 h (hN.st.1 _ _ _ (by show _ ∧ _; omega)) (hN.st.2.1 _ _ _ _ _ (by show _ ∧ _; omega) rfl) dX13_step_118 ?_
              show ch_W X E _ _ _ _ _ _ _ (.ref (S.1 16 25 0) :: _)
              refine ca_iload_n h dX13_step_121 rfl ?_
              refine oa_aald h (j := j) rfl (by decide) (hN.st.1 _ _ _ (by show _ ∧ _; omega)) rfl (by omega) (by decide) (hN.st.2.1 _ _ _ _ _ (by show _ ∧ _; omega) (o_rt25 (by omega))) dX13_step_122 ?_
              show ch_W X E _ _ _ _ _ _ _ (.ref (S.1 16 23 j) :: _)
              refine ca_astore_n h dX13_step_123 rfl ?_
              refine ca_aload_nr h dX13_step_124 rfl ?_
              refine gi_X13_88 h (hN.st.1 _ _ _ (by show _ ∧ _; omega)) dX13_step_125 ?_
              refine ca_top (y := nj 3 j 4) (hN.mf (f := 4) (by omega) (by decide)) ?_
              refine ca_iconst h dX13_step_128 ik_1 ?_
              refine ca_icmp_eq (tgt := 135) h dX13_step_129 (by decide) (fun c_129 => ?_) (fun c_129 => ?_)
              ·
                obtain ⟨s, hsc, h5⟩ := r_sv hN.rn hjm c_129
                have hs8 : s < 8 := by omega
                refine ca_iconst h dX13_step_135 ik_0 ?_
                refine ca_istore_n h dX13_step_136 rfl ?_
                have loop_137 : ∀ (jj c : Nat), c + jj = k_cc n → ∀ (S : ch_S) (μ : ch_M) (w : Nat → Int32) (hN : o_NW (kf (k_ms1 j) c nj) w S μ) (hf : o_fr S0 μ0 S μ), ch_W X E 7 S μ (8 * j + c) (64 * j + 8 * c) 137 [(0, .ref (S.1 16 22 0)), (1, .int (nI j)), (2, .ref (S.1 16 23 j)), (3, .int (nI c))] [] := by
                  intro jj
                  induction jj with
                  | zero =>
                    intro c hn S μ w hN hf
                    have hn : c = k_cc n := by omega
                    obtain ⟨nc, hnc⟩ : ∃ z, z = kf (k_ms1 j) c nj := ⟨_, rfl⟩
                    rw [← hnc] at hN
                    have ek : ∀ kd, kd ≠ 4 → kd ≠ 5 → nc kd = nj kd := fun kd a b => by rw [hnc]; exact k_msL_k j c nj a b
                    have emc : k_mc nc = k_mc n := (k_mc_0 (ek 0 (by decide) (by decide))).trans emm
                    have ecn : k_cc nc = k_cc n := (k_cc_0 (ek 0 (by decide) (by decide))).trans ecc
                    have h5c : nc 3 j 5 = nI s := by rw [ek 3 (by decide) (by decide)]; exact h5
                    have htc : nc 3 j 4 = 1 := by rw [ek 3 (by decide) (by decide)]; exact c_129
                    have hG2 : nc 2 = n 2 := by rw [ek 2 (by decide) (by decide), hnj, kf_kd s_ms_2, en1, kf_kd (fun i n => s_mv_ne (by decide))]
                    refine ca_iload_n h dX13_step_137 rfl ?_
                    refine ca_aload_nr h dX13_step_138 rfl ?_
                    refine gi_X13_57 h (hN.st.1 _ _ _ (by show _ ∧ _; omega)) dX13_step_139 ?_
                    refine ca_top (y := nI (k_cc n)) (hN.cells.trans (by rw [ecn])) ?_
                    refine ca_icmp_ge (tgt := 282) h dX13_step_142 (by decide) (fun c_142 => ?_) (fun c_142 => ?_)
                    ·
                      refine ca_iinc h dX13_step_282 rfl ik_1 rfl ?_
                      rw [show nI j + 1 = nI (j + 1) from nI_1 _]
                      refine ca_goto (tgt := 109) h dX13_step_285 (by decide) ?_
                      refine ca_pick [1, 0] rfl ?_
                      have e9 : kf s_ms (j + 1) n1 = kf (k_ms1 j) (k_cc n) nj := by rw [kf_s, ← hnj]; unfold s_ms; rw [if_pos c_129]; unfold k_ms; rw [ecc]
                      refine ca_widen (k := 8 * (j + 1)) (n := 64 * (j + 1)) (by omega) (by omega) ?_
                      exact ih_109 (j + 1) (by omega) S μ w (by rw [e9, ← hn, ← hnc]; exact hN) hf (by rw [kf_s, ← hnj]; exact hPn)
                    · exact absurd c_142 (by rw [hn]; exact Int32.lt_irrefl)
                  | succ jj ih_137 =>
                    intro c hn S μ w hN hf
                    have hn1 : c < k_cc n := by omega
                    obtain ⟨nc, hnc⟩ : ∃ z, z = kf (k_ms1 j) c nj := ⟨_, rfl⟩
                    rw [← hnc] at hN
                    have ek : ∀ kd, kd ≠ 4 → kd ≠ 5 → nc kd = nj kd := fun kd a b => by rw [hnc]; exact k_msL_k j c nj a b
                    have emc : k_mc nc = k_mc n := (k_mc_0 (ek 0 (by decide) (by decide))).trans emm
                    have ecn : k_cc nc = k_cc n := (k_cc_0 (ek 0 (by decide) (by decide))).trans ecc
                    have h5c : nc 3 j 5 = nI s := by rw [ek 3 (by decide) (by decide)]; exact h5
                    have htc : nc 3 j 4 = 1 := by rw [ek 3 (by decide) (by decide)]; exact c_129
                    have hG2 : nc 2 = n 2 := by rw [ek 2 (by decide) (by decide), hnj, kf_kd s_ms_2, en1, kf_kd (fun i n => s_mv_ne (by decide))]
                    refine ca_iload_n h dX13_step_137 rfl ?_
                    refine ca_aload_nr h dX13_step_138 rfl ?_
                    refine gi_X13_57 h (hN.st.1 _ _ _ (by show _ ∧ _; omega)) dX13_step_139 ?_
                    refine ca_top (y := nI (k_cc n)) (hN.cells.trans (by rw [ecn])) ?_
                    refine ca_icmp_ge (tgt := 282) h dX13_step_142 (by decide) (fun c_142 => ?_) (fun c_142 => ?_)
                    · exact absurd (nI_lt hn1 (by omega)) c_142
                    ·
                      have K_179 : ∀ (hms : kf (k_ms1 j) (c + 1) nj = k_add nc j c (k_lv nc c (nc 3 j 0) (nc 3 j 1)) (Int32.toNatClampNeg (nc 0 0 4))), ch_W X E 7 S μ (8 * j + c) (64 * j + 8 * c) 179 [(0, .ref (S.1 16 22 0)), (1, .int (nI j)), (2, .ref (S.1 16 23 j)), (3, .int (nI c))] [] := by
                        intro hms
                        obtain ⟨ln, id, eL, hL8, hvL, hrL, heL⟩ := hN.rp (m := j) (by omega) htc (show c < 8 by omega)
                        obtain ⟨W, eW, hW1, hW8, hWL⟩ := o_win hN.rn
                        have hLW := hWL j c ln (by omega) (by omega) eL hL8
                        obtain ⟨nn, hNe⟩ : ∃ N, N = if ln < W then ln + 1 else W := ⟨_, rfl⟩
                        have hnn : 1 ≤ nn ∧ nn ≤ 8 ∧ nn ≤ ln + 1 := by rw [hNe]; split <;> omega
                        obtain ⟨F, hF⟩ := hN.st.2.2
                        have hNo := hN
                        refine ca_aload_nr h dX13_step_179 rfl ?_
                        refine gi_X13_7 h (hN.st.1 _ _ _ (by show _ ∧ _; omega)) dX13_step_180 ?_
                        refine ca_top (y := nI W) ((hN.hd (by decide)).trans eW) ?_
                        refine ca_aload_nr h dX13_step_183 rfl ?_
                        refine gr_X13_134 h (hN.st.1 _ _ _ (by show _ ∧ _; omega)) (hN.st.2.1 _ _ _ _ _ (by show _ ∧ _; omega) rfl) dX13_step_184 ?_
                        show ch_W X E _ _ _ _ _ _ _ (.ref (S.1 16 24 (8 + j)) :: _)
                        refine ca_iload_n h dX13_step_187 rfl ?_
                        refine oa_aald h (j := c) rfl (by decide) (hN.st.1 _ _ _ (by show _ ∧ _; omega)) rfl (by omega) (by decide) hrL dX13_step_188 ?_
                        show ch_W X E _ _ _ _ _ _ _ (.ref (S.1 18 (ln + 40) id) :: _)
                        refine oa_alen h (ch_kdn _) hvL rfl dX13_step_189 ?_
                        refine ca_iconst h dX13_step_190 ik_1 ?_
                        refine ca_iadd h dX13_step_191 ?_
                        refine ca_mmin h hG rfl (by rw [Nat.ble_eq]; omega) (by rw [Nat.ble_eq]; omega) kw_730 kw_517 kw_15 kw_518 (Nat.le_of_ble_eq_true rfl) dX13_step_192 ?_
                        refine ca_top (y := nI nn) (o_min hNe hLW hW8) ?_
                        refine ca_istore h dX13_step_195 rfl ?_
                        refine ca_iload h dX13_step_197 rfl ?_
                        refine oa_newI 18 (nn + 40) F (n := nn) h hG (ch_bs16 hN.st) (ch_kdn _) kw_67 rfl (by omega) ⟨by omega, by omega⟩ dX13_step_199 ?_
                        intro S μ hw
                        rw [← o_nw_a hw (show 16 ≠ 18 by decide)]
                        have hq18 := o_fr_nw18 hw (hF _ _ (Nat.le_refl _))
                        have hN := o_NW_fr hN hq18 (o_nw_m hw (by decide)) (o_nw_r hw (by decide)) (o_F_nw hw hF (Nat.le_refl _))
                        obtain ⟨q1, q2, q3⟩ := hq18.2.2 _ _ hvL
                        have hne : ¬ (18 = 18 ∧ ln + 40 = nn + 40 ∧ id = F) := fun z => hF (ln + 40) id (by omega) hvL
                        have hrL2 : S.2.2 16 24 (8 + j) c = some (S.1 18 (ln + 40) id) := by rw [o_nw_r hw (by decide), q2]; exact hrL
                        refine ca_astore h dX13_step_201 rfl ?_
                        refine ca_aload h dX13_step_203 rfl ?_
                        refine ca_iload h dX13_step_205 rfl ?_
                        refine ca_iconst h dX13_step_207 ik_1 ?_
                        refine ca_isub h dX13_step_208 ?_
                        refine ca_top (y := nI (nn - 1)) (o_pr hnn.1) ?_
                        refine ca_aload_nr h dX13_step_209 rfl ?_
                        refine ca_iload_n h dX13_step_210 rfl ?_
                        refine ca_aload_nr h dX13_step_211 rfl ?_
                        refine gi_X13_108 h (hN.st.1 _ _ _ (by show _ ∧ _; omega)) dX13_step_212 ?_
                        refine ca_top (y := nc 3 j 0) (hN.mf (f := 0) (by omega) (by decide)) ?_
                        refine ca_aload_nr h dX13_step_215 rfl ?_
                        refine gi_X13_111 h (hN.st.1 _ _ _ (by show _ ∧ _; omega)) dX13_step_216 ?_
                        refine ca_top (y := nc 3 j 1) (hN.mf (f := 1) (by omega) (by decide)) ?_
                        refine oa_v h hG ml_X13_80 (c_X13_level hN (c := c) (by omega)) (ci := 13) rfl rfl rfl (hN.st.1 _ _ _ (by show _ ∧ _; omega)) rfl rfl rfl rfl ⟨by omega, by omega⟩ rfl dX13_step_219 ?_
                        refine oa_iastN h (j := (nn - 1)) (ch_kdn _) hw.1 rfl (by omega) (by omega) dX13_step_222 ?_
                        refine ca_iconst h dX13_step_223 ik_0 ?_
                        refine ca_istore h dX13_step_224 rfl ?_
                        have loop_226 : ∀ (jj k : Nat), k + jj = (nn - 1) → ∀ (μ2 : ch_M) (hm2 : ∀ a b d, ¬ (a = 18 ∧ b = nn + 40 ∧ d = F) → μ2 a b d = μ a b d) (hv2 : μ2 18 (nn + 40) F (nn - 1) = (k_lv nc c (nc 3 j 0) (nc 3 j 1))) (ht2 : ∀ t, t < k → μ2 18 (nn + 40) F t = μ 18 (ln + 40) id (ln - (nn - 1) + t)), ch_W X E 7 S μ2 (8 * j + c + 1) (64 * j + 8 * c + nn) 226 [(0, .ref (S.1 16 22 0)), (1, .int (nI j)), (2, .ref (S.1 16 23 j)), (3, .int (nI c)), (4, .int (nI nn)), (5, .ref (S.1 18 (nn + 40) F)), (6, .int (nI k))] [] := by
                          intro jj
                          induction jj with
                          | zero =>
                            intro k hn μ2 hm2 hv2 ht2
                            have hn : k = (nn - 1) := by omega
                            refine ca_iload h dX13_step_226 rfl ?_
                            refine ca_iload h dX13_step_228 rfl ?_
                            refine ca_iconst h dX13_step_230 ik_1 ?_
                            refine ca_isub h dX13_step_231 ?_
                            refine ca_top (y := nI (nn - 1)) (o_pr hnn.1) ?_
                            refine ca_icmp_ge (tgt := 268) h dX13_step_232 (by decide) (fun c_232 => ?_) (fun c_232 => ?_)
                            ·
                              refine ca_aload_nr h dX13_step_268 rfl ?_
                              refine gr_X13_134 h (hN.st.1 _ _ _ (by show _ ∧ _; omega)) (hN.st.2.1 _ _ _ _ _ (by show _ ∧ _; omega) rfl) dX13_step_269 ?_
                              show ch_W X E _ _ _ _ _ _ _ (.ref (S.1 16 24 (8 + j)) :: _)
                              refine ca_iload_n h dX13_step_272 rfl ?_
                              refine ca_aload h dX13_step_273 rfl ?_
                              refine oa_astB h rfl (hN.st.1 _ _ _ (by show _ ∧ _; omega)) (ch_kdn _) hw.1 rfl (by omega) (by decide) dX13_step_275 ?_
                              intro S hr
                              rw [← hr.1]
                              obtain ⟨w', g1, g2, g3, g4⟩ := o_msA (val := μ2 18 (nn + 40) F) hNo.rn (by omega) htc (by omega) (k_lv_b hNo.rn (by omega) (o_xy hNo.rn (by omega)).1 (o_xy hNo.rn (by omega)).2) eL eW hW8 hW1 hLW hNe (fun t ht => (ht2 t (by omega)).trans ((congrFun q3 _).trans ((heL _ (by omega)).trans (r_lv hNo.rn (by omega) htc (by omega) (by rw [eL, nI_clamp (by omega)]; omega)).symm))) hv2
                              obtain ⟨hf1, hN1⟩ := o_msr hNo (by omega) (by omega) hF hw hm2 hr (fun kd a b => k_add_ne a b) g1 g2 g3 g4
                              have hf := o_fr_tr hf hf1
                              refine ca_iinc h dX13_step_276 rfl ik_1 rfl ?_
                              rw [show nI c + 1 = nI (c + 1) from nI_1 _]
                              refine ca_goto (tgt := 137) h dX13_step_279 (by decide) ?_
                              refine ca_pick [1, 2, 3, 0] rfl ?_
                              refine ca_widen (k := 8 * j + (c + 1)) (n := 64 * j + 8 * (c + 1)) (by omega) (by omega) ?_
                              exact ih_137 (c + 1) (by omega) S μ2 _ (by rw [hms]; exact hN1) hf
                            · exact absurd c_232 (by rw [hn]; exact Int32.lt_irrefl)
                          | succ jj ih_226 =>
                            intro k hn μ2 hm2 hv2 ht2
                            have hn1 : k < (nn - 1) := by omega
                            refine ca_iload h dX13_step_226 rfl ?_
                            refine ca_iload h dX13_step_228 rfl ?_
                            refine ca_iconst h dX13_step_230 ik_1 ?_
                            refine ca_isub h dX13_step_231 ?_
                            refine ca_top (y := nI (nn - 1)) (o_pr hnn.1) ?_
                            refine ca_icmp_ge (tgt := 268) h dX13_step_232 (by decide) (fun c_232 => ?_) (fun c_232 => ?_)
                            · exact absurd (nI_lt hn1 (by omega)) c_232
                            ·
                              refine ca_aload h dX13_step_235 rfl ?_
                              refine ca_iload h dX13_step_237 rfl ?_
                              refine ca_aload_nr h dX13_step_239 rfl ?_
                              refine gr_X13_134 h (hN.st.1 _ _ _ (by show _ ∧ _; omega)) (hN.st.2.1 _ _ _ _ _ (by show _ ∧ _; omega) rfl) dX13_step_240 ?_
                              show ch_W X E _ _ _ _ _ _ _ (.ref (S.1 16 24 (8 + j)) :: _)
                              refine ca_iload_n h dX13_step_243 rfl ?_
                              refine oa_aald h (j := c) rfl (by decide) (hN.st.1 _ _ _ (by show _ ∧ _; omega)) rfl (by omega) (by decide) hrL2 dX13_step_244 ?_
                              show ch_W X E _ _ _ _ _ _ _ (.ref (S.1 18 (ln + 40) id) :: _)
                              refine ca_aload_nr h dX13_step_245 rfl ?_
                              refine gr_X13_134 h (hN.st.1 _ _ _ (by show _ ∧ _; omega)) (hN.st.2.1 _ _ _ _ _ (by show _ ∧ _; omega) rfl) dX13_step_246 ?_
                              show ch_W X E _ _ _ _ _ _ _ (.ref (S.1 16 24 (8 + j)) :: _)
                              refine ca_iload_n h dX13_step_249 rfl ?_
                              refine oa_aald h (j := c) rfl (by decide) (hN.st.1 _ _ _ (by show _ ∧ _; omega)) rfl (by omega) (by decide) hrL2 dX13_step_250 ?_
                              show ch_W X E _ _ _ _ _ _ _ (.ref (S.1 18 (ln + 40) id) :: _)
                              refine oa_alen h (ch_kdn _) q1 rfl dX13_step_251 ?_
                              refine ca_iload h dX13_step_252 rfl ?_
                              refine ca_iconst h dX13_step_254 ik_1 ?_
                              refine ca_isub h dX13_step_255 ?_
                              refine ca_top (y := nI (nn - 1)) (o_pr hnn.1) ?_
                              refine ca_isub h dX13_step_256 ?_
                              refine ca_top (y := nI (ln - (nn - 1))) (pk_sub (by omega)) ?_
                              refine ca_iload h dX13_step_257 rfl ?_
                              refine ca_iadd h dX13_step_259 ?_
                              refine ca_top (y := nI (ln - (nn - 1) + k)) (nI_add _ _) ?_
                              refine oa_ialdN h (j := (ln - (nn - 1) + k)) (ch_kdn _) q1 rfl (by omega) (by omega) dX13_step_260 ?_
                              refine oa_iastN h (j := k) (ch_kdn _) hw.1 rfl (by omega) (by omega) dX13_step_261 ?_
                              refine ca_iinc h dX13_step_262 rfl ik_1 rfl ?_
                              rw [show nI k + 1 = nI (k + 1) from nI_1 _]
                              refine ca_goto (tgt := 226) h dX13_step_265 (by decide) ?_
                              refine ca_pick [1, 2, 3, 4, 5, 6, 0] rfl ?_
                              refine ih_226 (k + 1) (by omega) _ (fun a b d z => (ch_st_ne z).trans (hm2 a b d z)) (by rw [ch_st_at, if_neg (by omega)]; exact hv2) (fun t ht => ?_)
                              rw [ch_st_at]
                              by_cases e : t = k
                              · subst e; rw [if_pos ⟨rfl, rfl, rfl, rfl⟩]; exact congrFun (hm2 18 (ln + 40) id hne) _
                              · rw [if_neg (fun z => e z.2.2.2)]; exact ht2 t (by omega)
                        refine ca_pick [3, 4, 5, 6, 2, 1, 0] rfl ?_
                        exact loop_226 (nn - 1) 0 (by omega) _ (fun a b d z => ch_st_ne z) (by rw [ch_st_at, if_pos ⟨rfl, rfl, rfl, rfl⟩]) (fun t ht => absurd ht (Nat.not_lt_zero t))
                      refine ca_iload_n h dX13_step_145 rfl ?_
                      refine ca_aload_nr h dX13_step_146 rfl ?_
                      refine gi_X13_91 h (hN.st.1 _ _ _ (by show _ ∧ _; omega)) dX13_step_147 ?_
                      refine ca_top (y := nI s) ((hN.mf (f := 5) (by omega) (by decide)).trans h5c) ?_
                      refine ca_icmp_eq (tgt := 179) h dX13_step_150 (by decide) (fun c_150 => ?_) (fun c_150 => ?_)
                      ·
                        refine ca_pick [0, 1, 2, 3] rfl ?_
                        exact K_179 (by rw [kf_s, ← hnc]; unfold k_ms1; rw [if_pos (Or.inl (by rw [h5c]; exact c_150))])
                      ·
                        refine ca_aload_nr h dX13_step_153 rfl ?_
                        refine gr_X13_35 h (hN.st.1 _ _ _ (by show _ ∧ _; omega)) (hN.st.2.1 _ _ _ _ _ (by show _ ∧ _; omega) rfl) dX13_step_154 ?_
                        show ch_W X E _ _ _ _ _ _ _ (.ref (S.1 16 24 1) :: _)
                        refine ca_aload_nr h dX13_step_157 rfl ?_
                        refine gi_X13_91 h (hN.st.1 _ _ _ (by show _ ∧ _; omega)) dX13_step_158 ?_
                        refine ca_top (y := nI s) ((hN.mf (f := 5) (by omega) (by decide)).trans h5c) ?_
                        refine oa_aald h (j := s) rfl (by decide) (hN.st.1 _ _ _ (by show _ ∧ _; omega)) rfl (by omega) (by decide) (hN.st.2.1 _ _ _ _ _ (by show _ ∧ _; omega) (o_rt241 (by omega))) dX13_step_161 ?_
                        show ch_W X E _ _ _ _ _ _ _ (.ref (S.1 16 48 (8 + s)) :: _)
                        refine ca_iload_n h dX13_step_162 rfl ?_
                        refine oa_iald h (j := c) rfl (hN.st.1 _ _ _ (by show _ ∧ _; omega)) rfl (by omega) (by decide) dX13_step_163 ?_
                        refine ca_top (y := (if nc 2 (8 * s + c) 0 = 0 then -1 else nc 2 (8 * s + c) 1)) (hN.hy (by omega) (by omega)) ?_
                        refine ca_if_ge (tgt := 179) h dX13_step_164 (by decide) (fun c_164 => ?_) (fun c_164 => ?_)
                        ·
                          refine ca_pick [0, 1, 2, 3] rfl ?_
                          exact K_179 (by rw [kf_s, ← hnc]; unfold k_ms1; rw [if_pos (Or.inr (by rw [h5c, r_rx (by omega) (by omega)]; exact fun z => c_164 (by rw [if_pos z]; decide)))])
                        ·
                          have hx : nc 2 (8 * s + c) 0 = 0 := Classical.byContradiction (fun z => hKG.2 (8 * s + c) (by omega) (by rw [← hG2]; rw [if_neg z] at c_164; exact c_164))
                          have hms : kf (k_ms1 j) (c + 1) nj = k_crp nc j (nI c) := by
                            rw [kf_s, ← hnc]; unfold k_ms1
                            rw [if_neg (fun z => by rcases z with z | z; (· exact c_150 (by rw [← h5c]; exact z)); (· exact z (by rw [h5c, r_rx (by omega) (by omega)]; exact hx)))]
                          obtain ⟨F, hF⟩ := hN.st.2.2
                          have hNo := hN
                          refine ca_aload_nr h dX13_step_167 rfl ?_
                          refine gr_X13_134 h (hN.st.1 _ _ _ (by show _ ∧ _; omega)) (hN.st.2.1 _ _ _ _ _ (by show _ ∧ _; omega) rfl) dX13_step_168 ?_
                          show ch_W X E _ _ _ _ _ _ _ (.ref (S.1 16 24 (8 + j)) :: _)
                          refine ca_iload_n h dX13_step_171 rfl ?_
                          refine ca_iconst h dX13_step_172 ik_0 ?_
                          refine oa_newI 18 40 F (n := 0) h hG (ch_bs16 hN.st) rfl kw_67 rfl (by decide) ⟨by omega, by omega⟩ dX13_step_173 ?_
                          intro S μ hw
                          rw [← o_nw_a hw (show 16 ≠ 18 by decide)]
                          refine oa_astB h rfl (by rw [o_nw_v hw (by decide)]; exact hN.st.1 _ _ _ (by show _ ∧ _; omega)) (ch_kdn 0) hw.1 rfl (by omega) (by decide) dX13_step_175 ?_
                          intro S hr
                          rw [← hr.1]
                          obtain ⟨hf1, hN1⟩ := o_msr (n' := k_crp nc j (nI c)) (w' := up w (210 + 91 * j + (19 + c)) 0) hN (by omega) (by decide) hF hw (fun _ _ _ _ => rfl) hr (fun kd a b => k_crp_ne b) (r_N_crp hN.rn (by omega) htc (by omega)) (up_s _ _ _) (fun t ht => absurd ht (Nat.not_lt_zero t)) (fun i h1 h2 => up_n h1)
                          have hf := o_fr_tr hf hf1
                          refine ca_goto (tgt := 276) h dX13_step_176 (by decide) ?_
                          refine ca_iinc h dX13_step_276 rfl ik_1 rfl ?_
                          rw [show nI c + 1 = nI (c + 1) from nI_1 _]
                          refine ca_goto (tgt := 137) h dX13_step_279 (by decide) ?_
                          refine ca_pick [1, 2, 3, 0] rfl ?_
                          refine ca_widen (k := 8 * j + (c + 1)) (n := 64 * j + 8 * (c + 1)) (by omega) (by omega) ?_
                          exact ih_137 (c + 1) (by omega) S μ _ (by rw [hms]; exact hN1) hf
                refine ca_pick [2, 3, 1, 0] rfl ?_
                exact loop_137 (k_cc n) 0 (by omega) S μ w hN hf
              ·
                refine ca_goto (tgt := 282) h dX13_step_132 (by decide) ?_
                refine ca_iinc h dX13_step_282 rfl ik_1 rfl ?_
                rw [show nI j + 1 = nI (j + 1) from nI_1 _]
                refine ca_goto (tgt := 109) h dX13_step_285 (by decide) ?_
                refine ca_pick [2, 0] rfl ?_
                have e9 : kf s_ms (j + 1) n1 = nj := by rw [kf_s, ← hnj]; unfold s_ms; rw [if_neg c_129]
                refine ca_widen (k := 8 * (j + 1)) (n := 64 * (j + 1)) (by omega) (by omega) ?_
                exact ih_109 (j + 1) (by omega) S μ w (by rw [e9]; exact hN) hf (by rw [kf_s, ← hnj]; exact hPn)
        refine ca_pick [1, 0] rfl ?_
        exact loop_109 (k_mc n) 0 (by omega) S μ w hN hf (fun i hi => absurd hi (Nat.not_lt_zero _))
      · exact absurd c_7 (by rw [hn]; exact Int32.lt_irrefl)
    | succ jj ih_2 =>
      intro j hn S μ w hN hf
      have hn1 : j < k_mc n := by omega
      obtain ⟨nj, hnj⟩ : ∃ z, z = kf s_mv j n := ⟨_, rfl⟩
      rw [← hnj] at hN
      have e0j : nj 0 = n 0 := by rw [hnj]; exact kf_0 k_mv_0 _ n
      have emm : k_mc nj = k_mc n := k_mc_0 e0j
      have ecc : k_cc nj = k_cc n := k_cc_0 e0j
      refine ca_iload_n h dX13_step_2 rfl ?_
      refine ca_aload_nr h dX13_step_3 rfl ?_
      refine gi_X13_60 h (hN.st.1 _ _ _ (by show _ ∧ _; omega)) dX13_step_4 ?_
      refine ca_top (y := nI (k_mc n)) (hN.many.trans (by rw [emm])) ?_
      refine ca_icmp_ge (tgt := 107) h dX13_step_7 (by decide) (fun c_7 => ?_) (fun c_7 => ?_)
      · exact absurd (nI_lt hn1 (by omega)) c_7
      ·
        refine ca_aload_nr h dX13_step_10 rfl ?_
        refine gr_X13_52 h (hN.st.1 _ _ _ (by show _ ∧ _; omega)) (hN.st.2.1 _ _ _ _ _ (by show _ ∧ _; omega) rfl) dX13_step_11 ?_
        show ch_W X E _ _ _ _ _ _ _ (.ref (S.1 16 25 0) :: _)
        refine ca_iload_n h dX13_step_14 rfl ?_
        refine oa_aald h (j := j) rfl (by decide) (hN.st.1 _ _ _ (by show _ ∧ _; omega)) rfl (by omega) (by decide) (hN.st.2.1 _ _ _ _ _ (by show _ ∧ _; omega) (o_rt25 (by omega))) dX13_step_15 ?_
        show ch_W X E _ _ _ _ _ _ _ (.ref (S.1 16 23 j) :: _)
        refine ca_astore_n h dX13_step_16 rfl ?_
        have K_101 : ∀ (μ : ch_M) (w : Nat → Int32) (hN : o_NW (s_mv j nj) w S μ) (hf : o_fr S0 μ0 S μ), ch_W X E 7 S μ 0 0 101 [(0, .ref (S.1 16 22 0)), (1, .int (nI j))] [] := by
          intro μ w hN hf
          refine ca_iinc h dX13_step_101 rfl ik_1 rfl ?_
          rw [show nI j + 1 = nI (j + 1) from nI_1 _]
          refine ca_goto (tgt := 2) h dX13_step_104 (by decide) ?_
          refine ca_pick [1, 0] rfl ?_
          exact ih_2 (j + 1) (by omega) S μ w (by rw [kf_s, ← hnj]; exact hN) hf
        refine ca_aload_nr h dX13_step_17 rfl ?_
        refine ca_dup h dX13_step_18 rfl ?_
        refine gi_X13_108 h (hN.st.1 _ _ _ (by show _ ∧ _; omega)) dX13_step_19 ?_
        refine ca_top (y := nj 3 j 0) (hN.mf (f := 0) (by omega) (by decide)) ?_
        refine ca_aload_nr h dX13_step_22 rfl ?_
        refine gi_X13_148 h (hN.st.1 _ _ _ (by show _ ∧ _; omega)) dX13_step_23 ?_
        refine ca_top (y := nj 3 j 2) (hN.mf (f := 2) (by omega) (by decide)) ?_
        refine ca_iadd h dX13_step_26 ?_
        refine pi_X13_108 h (hN.st.1 _ _ _ (by show _ ∧ _; omega)) dX13_step_27 ?_
        refine ca_aload_nr h dX13_step_30 rfl ?_
        refine ca_dup h dX13_step_31 rfl ?_
        refine gi_X13_111 h (hN.st.1 _ _ _ (by show _ ∧ _; omega)) dX13_step_32 ?_
        refine ca_top (y := nj 3 j 1) (by (repeat rw [ch_st_at, if_neg (by omega)]); exact hN.mf (f := 1) (by omega) (by decide)) ?_
        refine ca_aload_nr h dX13_step_35 rfl ?_
        refine gi_X13_151 h (hN.st.1 _ _ _ (by show _ ∧ _; omega)) dX13_step_36 ?_
        refine ca_top (y := nj 3 j 3) (by (repeat rw [ch_st_at, if_neg (by omega)]); exact hN.mf (f := 3) (by omega) (by decide)) ?_
        refine ca_iadd h dX13_step_39 ?_
        refine pi_X13_111 h (hN.st.1 _ _ _ (by show _ ∧ _; omega)) dX13_step_40 ?_
        refine ca_aload_nr h dX13_step_43 rfl ?_
        refine gi_X13_108 h (hN.st.1 _ _ _ (by show _ ∧ _; omega)) dX13_step_44 ?_
        refine ca_top (y := (nj 3 j 0 + nj 3 j 2)) (by repeat (first | rw [ch_st_at, if_pos ⟨rfl, rfl, rfl, rfl⟩] | rw [ch_st_at, if_neg (by omega)])) ?_
        refine ca_if_ge (tgt := 55) h dX13_step_47 (by decide) (fun c_47 => ?_) (fun c_47 => ?_)
        ·
          refine ca_aload_nr h dX13_step_55 rfl ?_
          refine gi_X13_108 h (hN.st.1 _ _ _ (by show _ ∧ _; omega)) dX13_step_56 ?_
          refine ca_top (y := (nj 3 j 0 + nj 3 j 2)) (by repeat (first | rw [ch_st_at, if_pos ⟨rfl, rfl, rfl, rfl⟩] | rw [ch_st_at, if_neg (by omega)])) ?_
          refine ca_sipush h dX13_step_59 sk_999 ?_
          refine ca_icmp_le (tgt := 72) h dX13_step_62 (by decide) (fun c_62 => ?_) (fun c_62 => ?_)
          ·
            refine ca_aload_nr h dX13_step_72 rfl ?_
            refine gi_X13_111 h (hN.st.1 _ _ _ (by show _ ∧ _; omega)) dX13_step_73 ?_
            refine ca_top (y := (nj 3 j 1 + nj 3 j 3)) (by repeat (first | rw [ch_st_at, if_pos ⟨rfl, rfl, rfl, rfl⟩] | rw [ch_st_at, if_neg (by omega)])) ?_
            refine ca_if_ge (tgt := 84) h dX13_step_76 (by decide) (fun c_76 => ?_) (fun c_76 => ?_)
            ·
              refine ca_aload_nr h dX13_step_84 rfl ?_
              refine gi_X13_111 h (hN.st.1 _ _ _ (by show _ ∧ _; omega)) dX13_step_85 ?_
              refine ca_top (y := (nj 3 j 1 + nj 3 j 3)) (by repeat (first | rw [ch_st_at, if_pos ⟨rfl, rfl, rfl, rfl⟩] | rw [ch_st_at, if_neg (by omega)])) ?_
              refine ca_sipush h dX13_step_88 sk_999 ?_
              refine ca_icmp_le (tgt := 101) h dX13_step_91 (by decide) (fun c_91 => ?_) (fun c_91 => ?_)
              ·
                refine ca_pick [1, 2] rfl ?_
                have hX : k_max 0 (k_min 999 (nj 3 j 0 + nj 3 j 2)) = (nj 3 j 0 + nj 3 j 2) := o_cl3 c_47 c_62
                have hY : k_max 0 (k_min 999 (nj 3 j 1 + nj 3 j 3)) = (nj 3 j 1 + nj 3 j 3) := o_cl3 c_76 c_91
                have g8 : k_cc (s_mv j nj) ≤ 8 := by rw [k_cc_0 (k_mv_0 j nj)]; omega
                refine K_101 _ _ (o_NW_mk hN.st (k_cc_0 (k_mv_0 j nj)) (k_mc_0 (k_mv_0 j nj)) (r_N_mv hN.rn (by omega)) (o_R_w (o_R_mob (o_R_mob (hN.R) (by decide)) (by decide)) ?_) (o_A_mob (o_A_mob (o_A_n hN.A (s_mv_ne (by decide)) (s_mv_ne (by decide)) (s_mv_ne (by decide)) (k_cc_0 (k_mv_0 j nj))) g8) g8)) (o_fr_st (o_fr_st (hf)))
                intro i _
                rw [hX, hY]
                all_goals
                  by_cases h1 : i = 210 + 91 * j + 1
                  · subst h1; simp [up]
                  · by_cases h0 : i = 210 + 91 * j + 0
                    · subst h0; simp [up]
                    · unfold up; simp only [if_neg h0, if_neg h1]
              ·
                refine ca_aload_nr h dX13_step_94 rfl ?_
                refine ca_sipush h dX13_step_95 sk_999 ?_
                refine pi_X13_111 h (hN.st.1 _ _ _ (by show _ ∧ _; omega)) dX13_step_98 ?_
                refine ca_pick [1, 2] rfl ?_
                have hX : k_max 0 (k_min 999 (nj 3 j 0 + nj 3 j 2)) = (nj 3 j 0 + nj 3 j 2) := o_cl3 c_47 c_62
                have hY : k_max 0 (k_min 999 (nj 3 j 1 + nj 3 j 3)) = 999 := o_cl2 c_91
                have g8 : k_cc (s_mv j nj) ≤ 8 := by rw [k_cc_0 (k_mv_0 j nj)]; omega
                refine K_101 _ _ (o_NW_mk hN.st (k_cc_0 (k_mv_0 j nj)) (k_mc_0 (k_mv_0 j nj)) (r_N_mv hN.rn (by omega)) (o_R_w (o_R_mob (o_R_mob (o_R_mob (hN.R) (by decide)) (by decide)) (by decide)) ?_) (o_A_mob (o_A_mob (o_A_mob (o_A_n hN.A (s_mv_ne (by decide)) (s_mv_ne (by decide)) (s_mv_ne (by decide)) (k_cc_0 (k_mv_0 j nj))) g8) g8) g8)) (o_fr_st (o_fr_st (o_fr_st (hf))))
                intro i _
                rw [hX, hY]
                all_goals
                  by_cases h1 : i = 210 + 91 * j + 1
                  · subst h1; simp [up]
                  · by_cases h0 : i = 210 + 91 * j + 0
                    · subst h0; simp [up]
                    · unfold up; simp only [if_neg h0, if_neg h1]
            ·
              refine ca_aload_nr h dX13_step_79 rfl ?_
              refine ca_iconst h dX13_step_80 ik_0 ?_
              refine pi_X13_111 h (hN.st.1 _ _ _ (by show _ ∧ _; omega)) dX13_step_81 ?_
              refine ca_aload_nr h dX13_step_84 rfl ?_
              refine gi_X13_111 h (hN.st.1 _ _ _ (by show _ ∧ _; omega)) dX13_step_85 ?_
              refine ca_top (y := 0) (by repeat (first | rw [ch_st_at, if_pos ⟨rfl, rfl, rfl, rfl⟩] | rw [ch_st_at, if_neg (by omega)])) ?_
              refine ca_sipush h dX13_step_88 sk_999 ?_
              refine ca_icmp_le (tgt := 101) h dX13_step_91 (by decide) (fun c_91 => ?_) (fun c_91 => ?_)
              ·
                refine ca_pick [1, 2] rfl ?_
                have hX : k_max 0 (k_min 999 (nj 3 j 0 + nj 3 j 2)) = (nj 3 j 0 + nj 3 j 2) := o_cl3 c_47 c_62
                have hY : k_max 0 (k_min 999 (nj 3 j 1 + nj 3 j 3)) = 0 := o_cl1 c_76
                have g8 : k_cc (s_mv j nj) ≤ 8 := by rw [k_cc_0 (k_mv_0 j nj)]; omega
                refine K_101 _ _ (o_NW_mk hN.st (k_cc_0 (k_mv_0 j nj)) (k_mc_0 (k_mv_0 j nj)) (r_N_mv hN.rn (by omega)) (o_R_w (o_R_mob (o_R_mob (o_R_mob (hN.R) (by decide)) (by decide)) (by decide)) ?_) (o_A_mob (o_A_mob (o_A_mob (o_A_n hN.A (s_mv_ne (by decide)) (s_mv_ne (by decide)) (s_mv_ne (by decide)) (k_cc_0 (k_mv_0 j nj))) g8) g8) g8)) (o_fr_st (o_fr_st (o_fr_st (hf))))
                intro i _
                rw [hX, hY]
                all_goals
                  by_cases h1 : i = 210 + 91 * j + 1
                  · subst h1; simp [up]
                  · by_cases h0 : i = 210 + 91 * j + 0
                    · subst h0; simp [up]
                    · unfold up; simp only [if_neg h0, if_neg h1]
              · exact absurd c_91 (by decide)
          ·
            refine ca_aload_nr h dX13_step_65 rfl ?_
            refine ca_sipush h dX13_step_66 sk_999 ?_
            refine pi_X13_108 h (hN.st.1 _ _ _ (by show _ ∧ _; omega)) dX13_step_69 ?_
            refine ca_aload_nr h dX13_step_72 rfl ?_
            refine gi_X13_111 h (hN.st.1 _ _ _ (by show _ ∧ _; omega)) dX13_step_73 ?_
            refine ca_top (y := (nj 3 j 1 + nj 3 j 3)) (by repeat (first | rw [ch_st_at, if_pos ⟨rfl, rfl, rfl, rfl⟩] | rw [ch_st_at, if_neg (by omega)])) ?_
            refine ca_if_ge (tgt := 84) h dX13_step_76 (by decide) (fun c_76 => ?_) (fun c_76 => ?_)
            ·
              refine ca_aload_nr h dX13_step_84 rfl ?_
              refine gi_X13_111 h (hN.st.1 _ _ _ (by show _ ∧ _; omega)) dX13_step_85 ?_
              refine ca_top (y := (nj 3 j 1 + nj 3 j 3)) (by repeat (first | rw [ch_st_at, if_pos ⟨rfl, rfl, rfl, rfl⟩] | rw [ch_st_at, if_neg (by omega)])) ?_
              refine ca_sipush h dX13_step_88 sk_999 ?_
              refine ca_icmp_le (tgt := 101) h dX13_step_91 (by decide) (fun c_91 => ?_) (fun c_91 => ?_)
              ·
                refine ca_pick [1, 2] rfl ?_
                have hX : k_max 0 (k_min 999 (nj 3 j 0 + nj 3 j 2)) = 999 := o_cl2 c_62
                have hY : k_max 0 (k_min 999 (nj 3 j 1 + nj 3 j 3)) = (nj 3 j 1 + nj 3 j 3) := o_cl3 c_76 c_91
                have g8 : k_cc (s_mv j nj) ≤ 8 := by rw [k_cc_0 (k_mv_0 j nj)]; omega
                refine K_101 _ _ (o_NW_mk hN.st (k_cc_0 (k_mv_0 j nj)) (k_mc_0 (k_mv_0 j nj)) (r_N_mv hN.rn (by omega)) (o_R_w (o_R_mob (o_R_mob (o_R_mob (hN.R) (by decide)) (by decide)) (by decide)) ?_) (o_A_mob (o_A_mob (o_A_mob (o_A_n hN.A (s_mv_ne (by decide)) (s_mv_ne (by decide)) (s_mv_ne (by decide)) (k_cc_0 (k_mv_0 j nj))) g8) g8) g8)) (o_fr_st (o_fr_st (o_fr_st (hf))))
                intro i _
                rw [hX, hY]
                all_goals
                  by_cases h1 : i = 210 + 91 * j + 1
                  · subst h1; simp [up]
                  · by_cases h0 : i = 210 + 91 * j + 0
                    · subst h0; simp [up]
                    · unfold up; simp only [if_neg h0, if_neg h1]
              ·
                refine ca_aload_nr h dX13_step_94 rfl ?_
                refine ca_sipush h dX13_step_95 sk_999 ?_
                refine pi_X13_111 h (hN.st.1 _ _ _ (by show _ ∧ _; omega)) dX13_step_98 ?_
                refine ca_pick [1, 2] rfl ?_
                have hX : k_max 0 (k_min 999 (nj 3 j 0 + nj 3 j 2)) = 999 := o_cl2 c_62
                have hY : k_max 0 (k_min 999 (nj 3 j 1 + nj 3 j 3)) = 999 := o_cl2 c_91
                have g8 : k_cc (s_mv j nj) ≤ 8 := by rw [k_cc_0 (k_mv_0 j nj)]; omega
                refine K_101 _ _ (o_NW_mk hN.st (k_cc_0 (k_mv_0 j nj)) (k_mc_0 (k_mv_0 j nj)) (r_N_mv hN.rn (by omega)) (o_R_w (o_R_mob (o_R_mob (o_R_mob (o_R_mob (hN.R) (by decide)) (by decide)) (by decide)) (by decide)) ?_) (o_A_mob (o_A_mob (o_A_mob (o_A_mob (o_A_n hN.A (s_mv_ne (by decide)) (s_mv_ne (by decide)) (s_mv_ne (by decide)) (k_cc_0 (k_mv_0 j nj))) g8) g8) g8) g8)) (o_fr_st (o_fr_st (o_fr_st (o_fr_st (hf)))))
                intro i _
                rw [hX, hY]
                all_goals
                  by_cases h1 : i = 210 + 91 * j + 1
                  · subst h1; simp [up]
                  · by_cases h0 : i = 210 + 91 * j + 0
                    · subst h0; simp [up]
                    · unfold up; simp only [if_neg h0, if_neg h1]
            ·
              refine ca_aload_nr h dX13_step_79 rfl ?_
              refine ca_iconst h dX13_step_80 ik_0 ?_
              refine pi_X13_111 h (hN.st.1 _ _ _ (by show _ ∧ _; omega)) dX13_step_81 ?_
              refine ca_aload_nr h dX13_step_84 rfl ?_
              refine gi_X13_111 h (hN.st.1 _ _ _ (by show _ ∧ _; omega)) dX13_step_85 ?_
              refine ca_top (y := 0) (by repeat (first | rw [ch_st_at, if_pos ⟨rfl, rfl, rfl, rfl⟩] | rw [ch_st_at, if_neg (by omega)])) ?_
              refine ca_sipush h dX13_step_88 sk_999 ?_
              refine ca_icmp_le (tgt := 101) h dX13_step_91 (by decide) (fun c_91 => ?_) (fun c_91 => ?_)
              ·
                refine ca_pick [1, 2] rfl ?_
                have hX : k_max 0 (k_min 999 (nj 3 j 0 + nj 3 j 2)) = 999 := o_cl2 c_62
                have hY : k_max 0 (k_min 999 (nj 3 j 1 + nj 3 j 3)) = 0 := o_cl1 c_76
                have g8 : k_cc (s_mv j nj) ≤ 8 := by rw [k_cc_0 (k_mv_0 j nj)]; omega
                refine K_101 _ _ (o_NW_mk hN.st (k_cc_0 (k_mv_0 j nj)) (k_mc_0 (k_mv_0 j nj)) (r_N_mv hN.rn (by omega)) (o_R_w (o_R_mob (o_R_mob (o_R_mob (o_R_mob (hN.R) (by decide)) (by decide)) (by decide)) (by decide)) ?_) (o_A_mob (o_A_mob (o_A_mob (o_A_mob (o_A_n hN.A (s_mv_ne (by decide)) (s_mv_ne (by decide)) (s_mv_ne (by decide)) (k_cc_0 (k_mv_0 j nj))) g8) g8) g8) g8)) (o_fr_st (o_fr_st (o_fr_st (o_fr_st (hf)))))
                intro i _
                rw [hX, hY]
                all_goals
                  by_cases h1 : i = 210 + 91 * j + 1
                  · subst h1; simp [up]
                  · by_cases h0 : i = 210 + 91 * j + 0
                    · subst h0; simp [up]
                    · unfold up; simp only [if_neg h0, if_neg h1]
              · exact absurd c_91 (by decide)
        ·
          refine ca_aload_nr h dX13_step_50 rfl ?_
          refine ca_iconst h dX13_step_51 ik_0 ?_
          refine pi_X13_108 h (hN.st.1 _ _ _ (by show _ ∧ _; omega)) dX13_step_52 ?_
          refine ca_aload_nr h dX13_step_55 rfl ?_
          refine gi_X13_108 h (hN.st.1 _ _ _ (by show _ ∧ _; omega)) dX13_step_56 ?_
          refine ca_top (y := 0) (by repeat (first | rw [ch_st_at, if_pos ⟨rfl, rfl, rfl, rfl⟩] | rw [ch_st_at, if_neg (by omega)])) ?_
          refine ca_sipush h dX13_step_59 sk_999 ?_
          refine ca_icmp_le (tgt := 72) h dX13_step_62 (by decide) (fun c_62 => ?_) (fun c_62 => ?_)
          ·
            refine ca_aload_nr h dX13_step_72 rfl ?_
            refine gi_X13_111 h (hN.st.1 _ _ _ (by show _ ∧ _; omega)) dX13_step_73 ?_
            refine ca_top (y := (nj 3 j 1 + nj 3 j 3)) (by repeat (first | rw [ch_st_at, if_pos ⟨rfl, rfl, rfl, rfl⟩] | rw [ch_st_at, if_neg (by omega)])) ?_
            refine ca_if_ge (tgt := 84) h dX13_step_76 (by decide) (fun c_76 => ?_) (fun c_76 => ?_)
            ·
              refine ca_aload_nr h dX13_step_84 rfl ?_
              refine gi_X13_111 h (hN.st.1 _ _ _ (by show _ ∧ _; omega)) dX13_step_85 ?_
              refine ca_top (y := (nj 3 j 1 + nj 3 j 3)) (by repeat (first | rw [ch_st_at, if_pos ⟨rfl, rfl, rfl, rfl⟩] | rw [ch_st_at, if_neg (by omega)])) ?_
              refine ca_sipush h dX13_step_88 sk_999 ?_
              refine ca_icmp_le (tgt := 101) h dX13_step_91 (by decide) (fun c_91 => ?_) (fun c_91 => ?_)
              ·
                refine ca_pick [1, 2] rfl ?_
                have hX : k_max 0 (k_min 999 (nj 3 j 0 + nj 3 j 2)) = 0 := o_cl1 c_47
                have hY : k_max 0 (k_min 999 (nj 3 j 1 + nj 3 j 3)) = (nj 3 j 1 + nj 3 j 3) := o_cl3 c_76 c_91
                have g8 : k_cc (s_mv j nj) ≤ 8 := by rw [k_cc_0 (k_mv_0 j nj)]; omega
                refine K_101 _ _ (o_NW_mk hN.st (k_cc_0 (k_mv_0 j nj)) (k_mc_0 (k_mv_0 j nj)) (r_N_mv hN.rn (by omega)) (o_R_w (o_R_mob (o_R_mob (o_R_mob (hN.R) (by decide)) (by decide)) (by decide)) ?_) (o_A_mob (o_A_mob (o_A_mob (o_A_n hN.A (s_mv_ne (by decide)) (s_mv_ne (by decide)) (s_mv_ne (by decide)) (k_cc_0 (k_mv_0 j nj))) g8) g8) g8)) (o_fr_st (o_fr_st (o_fr_st (hf))))
                intro i _
                rw [hX, hY]
                all_goals
                  by_cases h1 : i = 210 + 91 * j + 1
                  · subst h1; simp [up]
                  · by_cases h0 : i = 210 + 91 * j + 0
                    · subst h0; simp [up]
                    · unfold up; simp only [if_neg h0, if_neg h1]
              ·
                refine ca_aload_nr h dX13_step_94 rfl ?_
                refine ca_sipush h dX13_step_95 sk_999 ?_
                refine pi_X13_111 h (hN.st.1 _ _ _ (by show _ ∧ _; omega)) dX13_step_98 ?_
                refine ca_pick [1, 2] rfl ?_
                have hX : k_max 0 (k_min 999 (nj 3 j 0 + nj 3 j 2)) = 0 := o_cl1 c_47
                have hY : k_max 0 (k_min 999 (nj 3 j 1 + nj 3 j 3)) = 999 := o_cl2 c_91
                have g8 : k_cc (s_mv j nj) ≤ 8 := by rw [k_cc_0 (k_mv_0 j nj)]; omega
                refine K_101 _ _ (o_NW_mk hN.st (k_cc_0 (k_mv_0 j nj)) (k_mc_0 (k_mv_0 j nj)) (r_N_mv hN.rn (by omega)) (o_R_w (o_R_mob (o_R_mob (o_R_mob (o_R_mob (hN.R) (by decide)) (by decide)) (by decide)) (by decide)) ?_) (o_A_mob (o_A_mob (o_A_mob (o_A_mob (o_A_n hN.A (s_mv_ne (by decide)) (s_mv_ne (by decide)) (s_mv_ne (by decide)) (k_cc_0 (k_mv_0 j nj))) g8) g8) g8) g8)) (o_fr_st (o_fr_st (o_fr_st (o_fr_st (hf)))))
                intro i _
                rw [hX, hY]
                all_goals
                  by_cases h1 : i = 210 + 91 * j + 1
                  · subst h1; simp [up]
                  · by_cases h0 : i = 210 + 91 * j + 0
                    · subst h0; simp [up]
                    · unfold up; simp only [if_neg h0, if_neg h1]
            ·
              refine ca_aload_nr h dX13_step_79 rfl ?_
              refine ca_iconst h dX13_step_80 ik_0 ?_
              refine pi_X13_111 h (hN.st.1 _ _ _ (by show _ ∧ _; omega)) dX13_step_81 ?_
              refine ca_aload_nr h dX13_step_84 rfl ?_
              refine gi_X13_111 h (hN.st.1 _ _ _ (by show _ ∧ _; omega)) dX13_step_85 ?_
              refine ca_top (y := 0) (by repeat (first | rw [ch_st_at, if_pos ⟨rfl, rfl, rfl, rfl⟩] | rw [ch_st_at, if_neg (by omega)])) ?_
              refine ca_sipush h dX13_step_88 sk_999 ?_
              refine ca_icmp_le (tgt := 101) h dX13_step_91 (by decide) (fun c_91 => ?_) (fun c_91 => ?_)
              ·
                refine ca_pick [1, 2] rfl ?_
                have hX : k_max 0 (k_min 999 (nj 3 j 0 + nj 3 j 2)) = 0 := o_cl1 c_47
                have hY : k_max 0 (k_min 999 (nj 3 j 1 + nj 3 j 3)) = 0 := o_cl1 c_76
                have g8 : k_cc (s_mv j nj) ≤ 8 := by rw [k_cc_0 (k_mv_0 j nj)]; omega
                refine K_101 _ _ (o_NW_mk hN.st (k_cc_0 (k_mv_0 j nj)) (k_mc_0 (k_mv_0 j nj)) (r_N_mv hN.rn (by omega)) (o_R_w (o_R_mob (o_R_mob (o_R_mob (o_R_mob (hN.R) (by decide)) (by decide)) (by decide)) (by decide)) ?_) (o_A_mob (o_A_mob (o_A_mob (o_A_mob (o_A_n hN.A (s_mv_ne (by decide)) (s_mv_ne (by decide)) (s_mv_ne (by decide)) (k_cc_0 (k_mv_0 j nj))) g8) g8) g8) g8)) (o_fr_st (o_fr_st (o_fr_st (o_fr_st (hf)))))
                intro i _
                rw [hX, hY]
                all_goals
                  by_cases h1 : i = 210 + 91 * j + 1
                  · subst h1; simp [up]
                  · by_cases h0 : i = 210 + 91 * j + 0
                    · subst h0; simp [up]
                    · unfold up; simp only [if_neg h0, if_neg h1]
              · exact absurd c_91 (by decide)
          · exact absurd c_62 (by decide)
  refine ca_pick [1, 0] rfl ?_
  exact loop_2 (k_mc n) 0 (by omega) S0 μ0 w hN o_fr_0
