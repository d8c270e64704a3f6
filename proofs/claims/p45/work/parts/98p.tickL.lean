set_option maxHeartbeats 1000000 in
theorem c_L_isTick {l : Launch} {E : ch_E} {S : ch_S} {μ : ch_M} {n : ch_N} (hs : ch_Std E S) (e0 : μ 0 = n) {w : Nat → Int32} (hN : o_NW n w S μ) (hKG : k_G n) {B j : Nat} (hX : B + 300 < 2 ^ 31) (hA : s_A B n) (hz : s_z n) (hck : ¬ 100000 < n 0 0 3 + 1) (hj : j < 12) (hnx : μ 15 14 0 1 = nI j) : ch_C E l yL_isTick cL_isTick 15 (some FieldType.boolean) 8 11 96 S μ [.ref (S.1 15 11 0), .ref (S.1 16 22 0)] (fun v' S' μ' => v' = some (.int 1) ∧ o_s20 S S' ∧ ∀ k, k ≠ 20 → μ' k = s_run μ j k) := by
  refine ch_enter rfl rfl ?_
  intro X hl0 h hG hR hnm
  have h : ch_H X E RL cL_isTick 15 := h
  have hm12 := hN.m12
  have hc8 := hN.c8
  show ch_W X E 15 S μ 0 0 0 [(0, .ref (S.1 15 11 0)), (1, .ref (S.1 16 22 0))] []
  refine ca_aload_nr h dL_isTick_0 rfl ?_
  refine oa_v h hG ml_L_102 (n_X11_mobileCount hs e0 ) (ci := 11) rfl rfl rfl (hs.1 _ _ _ ⟨rfl, rfl⟩) rfl rfl rfl rfl ⟨by omega, by omega⟩ rfl dL_isTick_1 ?_
  refine ca_top (y := nI (k_mc n)) (a_mc hN.rn) ?_
  refine ca_istore_n h dL_isTick_4 rfl ?_
  refine ca_bipush h dL_isTick_5 bk_12 ?_
  refine oa_newI 20 52 0 (n := 12) h hG (ch_bs16 hN.st) rfl kw_67 rfl (by decide) ⟨by omega, by omega⟩ dL_isTick_7 ?_
  have h20 : o_s20 S S := fun k _ => ⟨rfl, rfl, rfl⟩
  obtain ⟨μ0, hμ0⟩ : ∃ z, z = μ := ⟨_, rfl⟩
  have hm20 : ∀ k, k ≠ 20 → μ k = μ0 k := fun k _ => by rw [hμ0]
  intro S1 μ1 hw
  have hs := std_fr hs (fun k hk => ⟨o_nw_a hw (by omega), o_nw_v hw (by omega), o_nw_r hw (by omega)⟩)
  have hN := o_NW_nw hN hw (by decide) (by decide)
  have h20 := o_s20_nw h20 hw
  have hm20 : ∀ k, k ≠ 20 → μ1 k = μ0 k := fun k hk => (o_nw_m hw hk).trans (hm20 k hk)
  rw [← o_nw_a hw (show 15 ≠ 20 by decide), ← o_nw_a hw (show 16 ≠ 20 by decide)]
  have hv3 := hw.1
  clear hw
  refine ca_astore_n h dL_isTick_9 rfl ?_
  refine ca_bipush h dL_isTick_10 bk_12 ?_
  refine oa_newI 20 52 1 (n := 12) h hG (ch_bs16 hN.st) rfl kw_67 rfl (by decide) ⟨by omega, by omega⟩ dL_isTick_12 ?_
  intro S1 μ1 hw
  have hs := std_fr hs (fun k hk => ⟨o_nw_a hw (by omega), o_nw_v hw (by omega), o_nw_r hw (by omega)⟩)
  have hN := o_NW_nw hN hw (by decide) (by decide)
  have h20 := o_s20_nw h20 hw
  have hm20 : ∀ k, k ≠ 20 → μ1 k = μ0 k := fun k hk => (o_nw_m hw hk).trans (hm20 k hk)
  rw [← o_nw_a hw (show 15 ≠ 20 by decide), ← o_nw_a hw (show 16 ≠ 20 by decide)]
  have e3 := hw.2.2 20 52 0 (by decide)
  rw [← e3.1]
  replace hv3 := e3.2.1.mpr hv3
  have hv4 := hw.1
  clear hw e3
  refine ca_astore h dL_isTick_14 rfl ?_
  refine ca_bipush h dL_isTick_16 bk_8 ?_
  refine ca_bipush h dL_isTick_18 bk_8 ?_
  refine oa_mna 20 24 0 20 48 0 (by decide) h (N := 8) (K := 8) hG (ch_bs16 hN.st) rfl rfl kw_1289 kw_67 rfl rfl (by omega) (by omega) ⟨by omega, by omega⟩ dL_isTick_20 ?_
  intro S1 μ1 hw
  obtain ⟨h20', hmm⟩ := o_s20_mn h20 hw
  have hs := std_fr hs (fun k hk => by obtain ⟨a, b, c⟩ := h20' k (by omega); obtain ⟨a', b', c'⟩ := h20 k (by omega); exact ⟨a.trans a'.symm, b.trans b'.symm, c.trans c'.symm⟩)
  have hN := o_NW_x hN ((h20' 16 (by decide)).1.trans (h20 16 (by decide)).1.symm) ((h20' 18 (by decide)).1.trans (h20 18 (by decide)).1.symm) ((h20' 16 (by decide)).2.1.trans (h20 16 (by decide)).2.1.symm) ((h20' 18 (by decide)).2.1.trans (h20 18 (by decide)).2.1.symm) ((h20' 16 (by decide)).2.2.trans (h20 16 (by decide)).2.2.symm) (hmm 16 (by decide)) (hmm 18 (by decide))
  rw [← (show S1.1 15 = _ from (h20' 15 (by decide)).1.trans (h20 15 (by decide)).1.symm), ← (show S1.1 16 = _ from (h20' 16 (by decide)).1.trans (h20 16 (by decide)).1.symm)]
  have e3 := hw.2.2 20 52 0 (by decide) (by omega)
  have e4 := hw.2.2 20 52 1 (by decide) (by omega)
  rw [← e3.1, ← e4.1]
  replace hv3 := e3.2.1.mpr hv3
  replace hv4 := e4.2.1.mpr hv4
  have hv5 := hw.1
  have h5i : ∀ a, a < 8 → S1.2.1 20 48 a ∧ S1.2.2 20 24 0 a = some (S1.1 20 48 a) := fun a ha => by have q := hw.2.1 a ha; rw [Nat.zero_add] at q; exact ⟨q.1, q.2.1⟩
  have hm20 : ∀ k, k ≠ 20 → μ1 k = μ0 k := fun k hk => (hmm k hk).trans (hm20 k hk)
  have e0 : μ1 0 = n := (hm20 0 (by decide)).trans (by rw [hμ0]; exact e0)
  clear hw e3 e4 hmm h20
  obtain ⟨S, rfl⟩ : ∃ z, z = S1 := ⟨_, rfl⟩
  obtain ⟨μ, rfl⟩ : ∃ z, z = μ1 := ⟨_, rfl⟩
  have eb := e0
  have Nb := hN
  refine ca_astore h dL_isTick_24 rfl ?_
  refine ca_iconst h dL_isTick_26 ik_0 ?_
  refine ca_istore h dL_isTick_27 rfl ?_
  have loop_29 : ∀ (jj m : Nat), m + jj = k_mc n → ∀ (μ2 : ch_M) (hm2 : ∀ k, k ≠ 20 → μ2 k = μ k) (hce : ∀ t, t < m → μ2 20 52 0 t = n 3 t 5) (hst : ∀ t, t < m → μ2 20 52 1 t = n 3 t 4), ch_W X E 15 S μ2 11 96 29 [(0, .ref (S.1 15 11 0)), (1, .ref (S.1 16 22 0)), (2, .int (nI (k_mc n))), (3, .ref (S.1 20 52 0)), (4, .ref (S.1 20 52 1)), (5, .ref (S.1 20 24 0)), (6, .int (nI m))] [] := by
    intro jj
    induction jj with
    | zero =>
      intro m hn μ2 hm2 hce hst
      have hn : m = k_mc n := by omega
      have e0 : μ2 0 = n := (hm2 0 (by decide)).trans eb
      have hN : o_NW n w S μ2 := o_NW_x Nb rfl rfl rfl rfl rfl (hm2 16 (by decide)) (hm2 18 (by decide))
      refine ca_iload h dL_isTick_29 rfl ?_
      refine ca_iload_n h dL_isTick_31 rfl ?_
      refine ca_icmp_ge (tgt := 62) h dL_isTick_32 (by decide) (fun c_32 => ?_) (fun c_32 => ?_)
      ·
        have hce : ∀ t, t < k_mc n → μ2 20 52 0 t = n 3 t 5 := fun t ht => hce t (by omega)
        have hst : ∀ t, t < k_mc n → μ2 20 52 1 t = n 3 t 4 := fun t ht => hst t (by omega)
        refine ca_iconst h dL_isTick_62 ik_0 ?_
        refine ca_istore h dL_isTick_63 rfl ?_
        have loop_65 : ∀ (jj a : Nat), a + jj = k_cc n → ∀ (μ2 : ch_M) (hm2 : ∀ k, k ≠ 20 → μ2 k = μ k) (hce : ∀ t, t < k_mc n → μ2 20 52 0 t = n 3 t 5) (hst : ∀ t, t < k_mc n → μ2 20 52 1 t = n 3 t 4) (hwe : ∀ a' b', b' < k_cc n → (a' < a ∨ (a' = a ∧ b' < 0)) → μ2 20 48 a' b' = n 2 (8 * a' + b') 2), ch_W X E 15 S μ2 11 96 65 [(0, .ref (S.1 15 11 0)), (1, .ref (S.1 16 22 0)), (2, .int (nI (k_mc n))), (3, .ref (S.1 20 52 0)), (4, .ref (S.1 20 52 1)), (5, .ref (S.1 20 24 0)), (6, .int (nI a))] [] := by
          intro jj
          induction jj with
          | zero =>
            intro a hn μ2 hm2 hce hst hwe
            have hn : a = k_cc n := by omega
            have e0 : μ2 0 = n := (hm2 0 (by decide)).trans eb
            have hN : o_NW n w S μ2 := o_NW_x Nb rfl rfl rfl rfl rfl (hm2 16 (by decide)) (hm2 18 (by decide))
            refine ca_iload h dL_isTick_65 rfl ?_
            refine ca_aload_nr h dL_isTick_67 rfl ?_
            refine gi_L_31 h (hN.st.1 _ _ _ (by show _ ∧ _; omega)) dL_isTick_68 ?_
            refine ca_top (y := nI (k_cc n)) hN.cells ?_
            refine ca_icmp_ge (tgt := 114) h dL_isTick_71 (by decide) (fun c_71 => ?_) (fun c_71 => ?_)
            ·
              refine ca_aload_nr h dL_isTick_114 rfl ?_
              refine ca_iconst h dL_isTick_115 ik_0 ?_
              refine oa_v h hG ml_L_113 (n_X11_total hs e0 ) (ci := 11) rfl rfl rfl (hs.1 _ _ _ ⟨rfl, rfl⟩) rfl rfl rfl rfl ⟨by omega, by omega⟩ rfl dL_isTick_116 ?_
              refine ca_istore h dL_isTick_119 rfl ?_
              refine ca_aload_nr h dL_isTick_121 rfl ?_
              refine ca_iconst h dL_isTick_122 ik_2 ?_
              refine oa_v h hG ml_L_113 (n_X11_total hs e0 ) (ci := 11) rfl rfl rfl (hs.1 _ _ _ ⟨rfl, rfl⟩) rfl rfl rfl rfl ⟨by omega, by omega⟩ rfl dL_isTick_123 ?_
              refine ca_aload_nr h dL_isTick_126 rfl ?_
              refine ca_iconst h dL_isTick_127 ik_3 ?_
              refine oa_v h hG ml_L_113 (n_X11_total hs e0 ) (ci := 11) rfl rfl rfl (hs.1 _ _ _ ⟨rfl, rfl⟩) rfl rfl rfl rfl ⟨by omega, by omega⟩ rfl dL_isTick_128 ?_
              refine ca_iadd h dL_isTick_131 ?_
              refine ca_istore h dL_isTick_132 rfl ?_
              refine ca_aload_nr h dL_isTick_134 rfl ?_
              refine oa_v h hG ml_L_108 (n_X11_clock hs e0 ) (ci := 11) rfl rfl rfl (hs.1 _ _ _ ⟨rfl, rfl⟩) rfl rfl rfl rfl ⟨by omega, by omega⟩ rfl dL_isTick_135 ?_
              refine ca_istore h dL_isTick_138 rfl ?_
              have hwe : ∀ a' b', b' < k_cc n → a' < k_cc n → μ2 20 48 a' b' = n 2 (8 * a' + b') 2 := fun a' b' hb ha => hwe a' b' hb (Or.inl (by omega))
              have hx1 : k_tk9 n 60 (nI 1) := ⟨⟨by decide, by decide⟩, ⟨r_clk_nn hN.rn.2.1.2.1.1 hN.rn.2.1.2.1.2.1, hck⟩⟩
              have hnx2 : μ2 15 14 0 1 = nI j := by rw [hm2 15 (by decide), hm20 15 (by decide), hμ0]; exact hnx
              refine ca_aload_nr h dL_isTick_140 rfl ?_
              refine ca_iconst h dL_isTick_141 ik_1 ?_
              refine oa_v h hG ml_L_245 (c_X11_run hs (T := 1) (μ := μ2) (by rw [e0]; exact hN.wf) (by decide) (by rw [e0]; exact hx1) hj hnx2) (ci := 11) rfl rfl rfl (hs.1 _ _ _ ⟨rfl, rfl⟩) rfl rfl rfl rfl ⟨by omega, by omega⟩ rfl dL_isTick_142 ?_
              have e9s : ∀ s : ch_N × ch_N, k_adv 1 s = k_tick s := fun _ => rfl
              rw [e9s]
              have hsr : up (up (k_rcm μ2 j) 0 (k_tick (μ2 0, k_rec (μ2 15))).1) 15 (k_tick (μ2 0, k_rec (μ2 15))).2 = s_run μ2 j := rfl
              rw [hsr]
              obtain ⟨n9, hn9⟩ : ∃ z, z = (k_tick (μ2 0, k_rec (μ2 15))).1 := ⟨_, rfl⟩
              have e1 : s_run μ2 j 0 = n9 := by rw [hn9]; unfold s_run; rw [up_n (by decide), up_s]
              have e9t : n9 = (k_tick (n, k_rec (μ2 15))).1 := by rw [hn9, e0]
              rw [← hn9, e0]
              have hTz := s_tick (q := k_rec (μ2 15)) (by omega) hA hz
              rw [← e9t] at hTz
              obtain ⟨hT, -⟩ := hTz
              have hA9 : s_A (B + 108) n9 := by rw [e9t]; exact s_A_tick hA
              have h9 : ∀ k, k ≠ 3 → n9 0 0 k = n 0 0 k := fun k hk => by rw [e9t, k_tick_00, if_neg hk]
              have hm9e : k_mc n9 = k_mc n := by unfold k_mc; rw [h9 2 (by decide)]
              have hc9e : k_cc n9 = k_cc n := by unfold k_cc; rw [h9 0 (by decide)]
              have hm9 : k_mc n9 ≤ 12 := by omega
              have hc9 : k_cc n9 ≤ 8 := by omega
              have ecl : n9 0 0 3 = n 0 0 3 + 1 := by rw [e9t, k_tick_00, if_pos rfl]
              have e9r : k_tot n9 0 - k_tot n 0 = n9 7 0 0 - n 7 0 0 := rfl
              have hfr : ∀ k, k ≠ 20 → s_run μ2 j k = s_run μ0 j k := fun k hk => s_run_fr hj (fun k hk => (hm2 k hk).trans (hm20 k hk)) hk
              have h20e : s_run μ2 j 20 = μ2 20 := s_run_ge hj (by decide)
              have hN : o_NW n w S (s_run μ2 j) := o_NW_x hN rfl rfl rfl rfl rfl (s_run_ge hj (by decide)) (s_run_ge hj (by decide))
              rw [← h20e] at hce hst hwe
              clear hm2
              generalize s_run μ2 j = μ2 at e1 hfr hN hce hst hwe ⊢
              refine ca_istore h dL_isTick_145 rfl ?_
              refine ca_iload h dL_isTick_147 rfl ?_
              refine ca_aload_nr h dL_isTick_149 rfl ?_
              refine ca_iconst h dL_isTick_150 ik_0 ?_
              refine oa_v h hG ml_L_113 (n_X11_total hs e1 ) (ci := 11) rfl rfl rfl (hs.1 _ _ _ ⟨rfl, rfl⟩) rfl rfl rfl rfl ⟨by omega, by omega⟩ rfl dL_isTick_151 ?_
              refine ca_iload h dL_isTick_154 rfl ?_
              refine ca_isub h dL_isTick_156 ?_
              refine ca_icmp_ne (tgt := 171) h dL_isTick_157 (by decide) (fun c_157 => ?_) (fun c_157 => ?_)
              · exact absurd (by rw [e9r]) c_157
              ·
                refine ca_aload_nr h dL_isTick_160 rfl ?_
                refine oa_v h hG ml_L_108 (n_X11_clock hs e1 ) (ci := 11) rfl rfl rfl (hs.1 _ _ _ ⟨rfl, rfl⟩) rfl rfl rfl rfl ⟨by omega, by omega⟩ rfl dL_isTick_161 ?_
                refine ca_iload h dL_isTick_164 rfl ?_
                refine ca_iconst h dL_isTick_166 ik_1 ?_
                refine ca_iadd h dL_isTick_167 ?_
                refine ca_icmp_eq (tgt := 173) h dL_isTick_168 (by decide) (fun c_168 => ?_) (fun c_168 => ?_)
                ·
                  refine ca_iconst h dL_isTick_173 ik_0 ?_
                  refine ca_istore h dL_isTick_174 rfl ?_
                  refine ca_iconst h dL_isTick_176 ik_0 ?_
                  refine ca_istore h dL_isTick_177 rfl ?_
                  have loop_179 : ∀ (jj m : Nat), m + jj = k_mc n → ∀ (x10 : Int32) (e10 : x10 = kf (fun m (r : Int32) => if n 3 m 4 = 1 ∧ ¬ n9 3 m 4 = 1 then r + 1 else r) m 0), ch_W X E 15 S μ2 11 96 179 [(0, .ref (S.1 15 11 0)), (1, .ref (S.1 16 22 0)), (2, .int (nI (k_mc n))), (3, .ref (S.1 20 52 0)), (4, .ref (S.1 20 52 1)), (5, .ref (S.1 20 24 0)), (7, .int (n 7 0 2 + n 7 0 3)), (10, .int x10), (11, .int (nI m))] [] := by
                    intro jj
                    induction jj with
                    | zero =>
                      intro m hn x10 e10
                      have hn : m = k_mc n := by omega
                      subst e10
                      refine ca_iload h dL_isTick_179 rfl ?_
                      refine ca_iload_n h dL_isTick_181 rfl ?_
                      refine ca_icmp_ge (tgt := 395) h dL_isTick_182 (by decide) (fun c_182 => ?_) (fun c_182 => ?_)
                      ·
                        have hend : (n9 7 0 2 + n9 7 0 3) - (n 7 0 2 + n 7 0 3) = kf (fun m (r : Int32) => if n 3 m 4 = 1 ∧ ¬ n9 3 m 4 = 1 then r + 1 else r) m 0 := by
                          have hcn : n9 7 0 2 + n9 7 0 3 = n 7 0 2 + n 7 0 3 + nI (s_E n n9) := hT.2.1
                          rw [hcn, hn]
                          have e5 := kf_cnt_I (p := fun m => n 3 m 4 = 1 ∧ ¬ n9 3 m 4 = 1) (k_mc n)
                          rw [e5, Int32.add_comm, Int32.add_sub_cancel]; rfl
                        refine ca_aload_nr h dL_isTick_395 rfl ?_
                        refine ca_iconst h dL_isTick_396 ik_2 ?_
                        refine oa_v h hG ml_L_113 (n_X11_total hs e1 ) (ci := 11) rfl rfl rfl (hs.1 _ _ _ ⟨rfl, rfl⟩) rfl rfl rfl rfl ⟨by omega, by omega⟩ rfl dL_isTick_397 ?_
                        refine ca_aload_nr h dL_isTick_400 rfl ?_
                        refine ca_iconst h dL_isTick_401 ik_3 ?_
                        refine oa_v h hG ml_L_113 (n_X11_total hs e1 ) (ci := 11) rfl rfl rfl (hs.1 _ _ _ ⟨rfl, rfl⟩) rfl rfl rfl rfl ⟨by omega, by omega⟩ rfl dL_isTick_402 ?_
                        refine ca_iadd h dL_isTick_405 ?_
                        refine ca_iload h dL_isTick_406 rfl ?_
                        refine ca_isub h dL_isTick_408 ?_
                        refine ca_iload h dL_isTick_409 rfl ?_
                        refine ca_icmp_ne (tgt := 418) h dL_isTick_411 (by decide) (fun c_411 => ?_) (fun c_411 => ?_)
                        · exact absurd hend c_411
                        ·
                          refine ca_iconst h dL_isTick_414 ik_1 ?_
                          refine ca_goto (tgt := 419) h dL_isTick_415 (by decide) ?_
                          refine ca_widen (k := 11) (n := 96) (by omega) (by omega) ?_
                          refine ca_ireturn h hR rfl dL_isTick_419 ?_
                          exact ⟨rfl, h20', fun k hk => (hfr k hk).trans (by rw [hμ0])⟩
                      · exact absurd c_182 (by rw [hn]; exact Int32.lt_irrefl)
                    | succ jj ih_179 =>
                      intro m hn x10 e10
                      have hn1 : m < k_mc n := by omega
                      subst e10
                      refine ca_iload h dL_isTick_179 rfl ?_
                      refine ca_iload_n h dL_isTick_181 rfl ?_
                      refine ca_icmp_ge (tgt := 395) h dL_isTick_182 (by decide) (fun c_182 => ?_) (fun c_182 => ?_)
                      · exact absurd (nI_lt hn1 (by omega)) c_182
                      ·
                        have K_207 : ∀ (x10 : Int32) (e10 : x10 = kf (fun m (r : Int32) => if n 3 m 4 = 1 ∧ ¬ n9 3 m 4 = 1 then r + 1 else r) (m + 1) 0), ch_W X E 15 S μ2 11 96 207 [(0, .ref (S.1 15 11 0)), (1, .ref (S.1 16 22 0)), (2, .int (nI (k_mc n))), (3, .ref (S.1 20 52 0)), (4, .ref (S.1 20 52 1)), (5, .ref (S.1 20 24 0)), (7, .int (n 7 0 2 + n 7 0 3)), (10, .int x10), (11, .int (nI m))] [] := by
                          intro x10 e10
                          have K_245 : ∀ (_ : True), ch_W X E 15 S μ2 11 96 245 [(0, .ref (S.1 15 11 0)), (1, .ref (S.1 16 22 0)), (2, .int (nI (k_mc n))), (3, .ref (S.1 20 52 0)), (4, .ref (S.1 20 52 1)), (5, .ref (S.1 20 24 0)), (7, .int (n 7 0 2 + n 7 0 3)), (10, .int x10), (11, .int (nI m))] [] := by
                            intro _
                            refine ca_aload h dL_isTick_245 rfl ?_
                            refine ca_iload h dL_isTick_247 rfl ?_
                            refine oa_iald h (j := m) rfl hv4 rfl (by omega) (by decide) dL_isTick_249 ?_
                            refine ca_top (y := n 3 m 4) (hst m hn1) ?_
                            refine ca_iconst h dL_isTick_250 ik_1 ?_
                            refine ca_icmp_ne (tgt := 389) h dL_isTick_251 (by decide) (fun c_251 => ?_) (fun c_251 => ?_)
                            ·
                              refine ca_iinc h dL_isTick_389 rfl ik_1 rfl ?_
                              rw [show nI m + 1 = nI (m + 1) from nI_1 _]
                              refine ca_goto (tgt := 179) h dL_isTick_392 (by decide) ?_
                              refine ca_pick [1, 2, 3, 4, 5, 6, 7, 8, 0] rfl ?_
                              exact ih_179 (m + 1) (by omega) _ e10
                            ·
                              refine ca_aload_nr h dL_isTick_254 rfl ?_
                              refine ca_iload h dL_isTick_255 rfl ?_
                              refine oa_v h hG ml_L_170 (n_X11_state hs e1 hm9 (by omega)) (ci := 11) rfl rfl rfl (hs.1 _ _ _ ⟨rfl, rfl⟩) rfl rfl rfl rfl ⟨by omega, by omega⟩ rfl dL_isTick_257 ?_
                              refine ca_iconst h dL_isTick_260 ik_1 ?_
                              refine ca_icmp_ne (tgt := 389) h dL_isTick_261 (by decide) (fun c_261 => ?_) (fun c_261 => ?_)
                              ·
                                refine ca_iinc h dL_isTick_389 rfl ik_1 rfl ?_
                                rw [show nI m + 1 = nI (m + 1) from nI_1 _]
                                refine ca_goto (tgt := 179) h dL_isTick_392 (by decide) ?_
                                refine ca_pick [1, 2, 3, 4, 5, 6, 7, 8, 0] rfl ?_
                                exact ih_179 (m + 1) (by omega) _ e10
                              ·
                                refine ca_aload_nr h dL_isTick_264 rfl ?_
                                refine ca_iload h dL_isTick_265 rfl ?_
                                refine oa_v h hG ml_L_175 (n_X11_servingCell hs e1 hm9 (by omega)) (ci := 11) rfl rfl rfl (hs.1 _ _ _ ⟨rfl, rfl⟩) rfl rfl rfl rfl ⟨by omega, by omega⟩ rfl dL_isTick_267 ?_
                                refine ca_aload_nr h dL_isTick_270 rfl ?_
                                refine ca_iload h dL_isTick_271 rfl ?_
                                refine oa_iald h (j := m) rfl hv3 rfl (by omega) (by decide) dL_isTick_273 ?_
                                refine ca_top (y := n 3 m 5) (hce m hn1) ?_
                                refine ca_icmp_ne (tgt := 280) h dL_isTick_274 (by decide) (fun c_274 => ?_) (fun c_274 => ?_)
                                ·
                                  have hm := hn1
                                  obtain ⟨s, hsc, h5⟩ := r_sv hN.rn hm c_251
                                  obtain ⟨f, hfc0, h5f⟩ := hA9.2.2.2.2.2.2.1 m (by omega) c_261
                                  have hfc : f < k_cc n := by omega
                                  have hex : ∃ b, b < k_cc n ∧ ((b = s ∨ n 2 (8 * s + b) 2 < n9 2 (8 * s + b) 2) ∧ n 2 (8 * b + f) 2 < n9 2 (8 * b + f) 2) := by
                                    rcases hT.2.2 m hm c_251 c_261 with y | ⟨s', b, f', q1, q2, q3, q4, q5, q6, q7⟩
                                    · exact absurd y c_274
                                    · have es : s' = s := (nI_eq (by omega) (by omega)).mp (q4.symm.trans h5)
                                      have ef : f' = f := (nI_eq (by omega) (by omega)).mp (q5.symm.trans h5f)
                                      subst es; subst ef
                                      have hA8 := s_A_mono hA (show B ≤ B + 108 by omega)
                                      exact ⟨b, q2, q6.imp id (fun z => s_Vlt hA8 hA9 (by omega) (by omega) z), s_Vlt hA8 hA9 (by omega) (by omega) q7⟩
                                  refine ca_iconst h dL_isTick_280 ik_0 ?_
                                  refine ca_istore h dL_isTick_281 rfl ?_
                                  refine ca_iconst h dL_isTick_283 ik_0 ?_
                                  refine ca_istore h dL_isTick_284 rfl ?_
                                  have loop_286 : ∀ (jj b : Nat), b + jj = k_cc n → ∀ (x12 : Int32) (h12 : (x12 = 0 ∨ x12 = 1) ∧ ∀ b', b' < b → ((b' = s ∨ n 2 (8 * s + b') 2 < n9 2 (8 * s + b') 2) ∧ n 2 (8 * b' + f) 2 < n9 2 (8 * b' + f) 2) → x12 = 1), ch_W X E 15 S μ2 11 96 286 [(0, .ref (S.1 15 11 0)), (1, .ref (S.1 16 22 0)), (2, .int (nI (k_mc n))), (3, .ref (S.1 20 52 0)), (4, .ref (S.1 20 52 1)), (5, .ref (S.1 20 24 0)), (7, .int (n 7 0 2 + n 7 0 3)), (10, .int x10), (11, .int (nI m)), (12, .int x12), (13, .int (nI b))] [] := by
                                    intro jj
                                    induction jj with
                                    | zero =>
                                      intro b hn x12 h12
                                      have hn : b = k_cc n := by omega
                                      refine ca_iload h dL_isTick_286 rfl ?_
                                      refine ca_aload_nr h dL_isTick_288 rfl ?_
                                      refine gi_L_31 h (hN.st.1 _ _ _ (by show _ ∧ _; omega)) dL_isTick_289 ?_
                                      refine ca_top (y := nI (k_cc n)) hN.cells ?_
                                      refine ca_icmp_ge (tgt := 382) h dL_isTick_292 (by decide) (fun c_292 => ?_) (fun c_292 => ?_)
                                      ·
                                        have hfin : x12 = 1 := by obtain ⟨b, hb, hg⟩ := hex; exact h12.2 b (by omega) hg
                                        refine ca_iload h dL_isTick_382 rfl ?_
                                        refine ca_if_ne (tgt := 389) h dL_isTick_384 (by decide) (fun c_384 => ?_) (fun c_384 => ?_)
                                        ·
                                          refine ca_iinc h dL_isTick_389 rfl ik_1 rfl ?_
                                          rw [show nI m + 1 = nI (m + 1) from nI_1 _]
                                          refine ca_goto (tgt := 179) h dL_isTick_392 (by decide) ?_
                                          refine ca_pick [1, 2, 3, 4, 5, 6, 7, 8, 0] rfl ?_
                                          exact ih_179 (m + 1) (by omega) _ e10
                                        · exact absurd c_384 (hfin ▸ by decide)
                                      · exact absurd c_292 (by rw [hn]; exact Int32.lt_irrefl)
                                    | succ jj ih_286 =>
                                      intro b hn x12 h12
                                      have hn1 : b < k_cc n := by omega
                                      refine ca_iload h dL_isTick_286 rfl ?_
                                      refine ca_aload_nr h dL_isTick_288 rfl ?_
                                      refine gi_L_31 h (hN.st.1 _ _ _ (by show _ ∧ _; omega)) dL_isTick_289 ?_
                                      refine ca_top (y := nI (k_cc n)) hN.cells ?_
                                      refine ca_icmp_ge (tgt := 382) h dL_isTick_292 (by decide) (fun c_292 => ?_) (fun c_292 => ?_)
                                      · exact absurd (nI_lt hn1 (by omega)) c_292
                                      ·
                                        refine ca_iload h dL_isTick_295 rfl ?_
                                        refine ca_aload_nr h dL_isTick_297 rfl ?_
                                        refine ca_iload h dL_isTick_298 rfl ?_
                                        refine oa_iald h (j := m) rfl hv3 rfl (by omega) (by decide) dL_isTick_300 ?_
                                        refine ca_top (y := nI s) ((hce m hm).trans h5) ?_
                                        refine ca_icmp_eq (tgt := 327) h dL_isTick_301 (by decide) (fun c_301 => ?_) (fun c_301 => ?_)
                                        ·
                                          refine ca_iconst h dL_isTick_327 ik_1 ?_
                                          refine ca_goto (tgt := 332) h dL_isTick_328 (by decide) ?_
                                          refine ca_istore h dL_isTick_332 rfl ?_
                                          refine ca_iload h dL_isTick_334 rfl ?_
                                          refine ca_iload h dL_isTick_336 rfl ?_
                                          refine ca_if_eq (tgt := 372) h dL_isTick_338 (by decide) (fun c_338 => ?_) (fun c_338 => ?_)
                                          · exact absurd c_338 (by decide)
                                          ·
                                            refine ca_aload_nr h dL_isTick_341 rfl ?_
                                            refine ca_iload h dL_isTick_342 rfl ?_
                                            refine ca_aload_nr h dL_isTick_344 rfl ?_
                                            refine ca_iload h dL_isTick_345 rfl ?_
                                            refine oa_v h hG ml_L_175 (n_X11_servingCell hs e1 hm9 (by omega)) (ci := 11) rfl rfl rfl (hs.1 _ _ _ ⟨rfl, rfl⟩) rfl rfl rfl rfl ⟨by omega, by omega⟩ rfl dL_isTick_347 ?_
                                            rw [h5f]
                                            refine oa_v h hG ml_L_144 (n_X11_successes hs e1 hc9 (by omega) (by omega)) (ci := 11) rfl rfl rfl (hs.1 _ _ _ ⟨rfl, rfl⟩) rfl rfl rfl rfl ⟨by omega, by omega⟩ rfl dL_isTick_350 ?_
                                            refine ca_aload h dL_isTick_353 rfl ?_
                                            refine ca_iload h dL_isTick_355 rfl ?_
                                            refine oa_aald h (j := b) rfl (by decide) hv5 rfl (by omega) (by decide) (h5i b (by omega)).2 dL_isTick_357 ?_
                                            show ch_W X E _ _ _ _ _ _ _ (.ref (S.1 20 48 b) :: _)
                                            refine ca_aload_nr h dL_isTick_358 rfl ?_
                                            refine ca_iload h dL_isTick_359 rfl ?_
                                            refine oa_v h hG ml_L_175 (n_X11_servingCell hs e1 hm9 (by omega)) (ci := 11) rfl rfl rfl (hs.1 _ _ _ ⟨rfl, rfl⟩) rfl rfl rfl rfl ⟨by omega, by omega⟩ rfl dL_isTick_361 ?_
                                            rw [h5f]
                                            refine oa_iald h (j := f) rfl (h5i b (by omega)).1 rfl (by omega) (by decide) dL_isTick_364 ?_
                                            refine ca_top (y := n 2 (8 * b + f) 2) (hwe b f hfc hn1) ?_
                                            refine ca_icmp_le (tgt := 372) h dL_isTick_365 (by decide) (fun c_365 => ?_) (fun c_365 => ?_)
                                            ·
                                              refine ca_iconst h dL_isTick_372 ik_0 ?_
                                              refine ca_ior h dL_isTick_373 ?_
                                              refine ca_istore h dL_isTick_374 rfl ?_
                                              refine ca_iinc h dL_isTick_376 rfl ik_1 rfl ?_
                                              rw [show nI b + 1 = nI (b + 1) from nI_1 _]
                                              refine ca_goto (tgt := 286) h dL_isTick_379 (by decide) ?_
                                              refine ca_pick [3, 4, 5, 6, 7, 8, 9, 10, 11, 1, 0] rfl ?_
                                              refine ih_286 (b + 1) (by omega) _ ⟨by rw [Int32.or_zero]; exact h12.1, fun b' hb' hg => ?_⟩
                                              rw [Int32.or_zero]
                                              by_cases e : b' = b
                                              · subst e; exact absurd hg.2 c_365
                                              · exact h12.2 b' (by omega) hg
                                            ·
                                              refine ca_iconst h dL_isTick_368 ik_1 ?_
                                              refine ca_goto (tgt := 373) h dL_isTick_369 (by decide) ?_
                                              refine ca_ior h dL_isTick_373 ?_
                                              refine ca_istore h dL_isTick_374 rfl ?_
                                              refine ca_iinc h dL_isTick_376 rfl ik_1 rfl ?_
                                              rw [show nI b + 1 = nI (b + 1) from nI_1 _]
                                              refine ca_goto (tgt := 286) h dL_isTick_379 (by decide) ?_
                                              refine ca_pick [3, 4, 5, 6, 7, 8, 9, 10, 11, 1, 0] rfl ?_
                                              refine ih_286 (b + 1) (by omega) _ ⟨?_, fun b' hb' hg => ?_⟩
                                              · rcases h12.1 with z | z <;> rw [z] <;> decide
                                              · rcases h12.1 with z | z <;> rw [z] <;> decide
                                        ·
                                          refine ca_aload_nr h dL_isTick_304 rfl ?_
                                          refine ca_aload_nr h dL_isTick_305 rfl ?_
                                          refine ca_iload h dL_isTick_306 rfl ?_
                                          refine oa_iald h (j := m) rfl hv3 rfl (by omega) (by decide) dL_isTick_308 ?_
                                          refine ca_top (y := nI s) ((hce m hm).trans h5) ?_
                                          refine ca_iload h dL_isTick_309 rfl ?_
                                          refine oa_v h hG ml_L_144 (n_X11_successes hs e1 hc9 (by omega) (by omega)) (ci := 11) rfl rfl rfl (hs.1 _ _ _ ⟨rfl, rfl⟩) rfl rfl rfl rfl ⟨by omega, by omega⟩ rfl dL_isTick_311 ?_
                                          refine ca_aload h dL_isTick_314 rfl ?_
                                          refine ca_aload_nr h dL_isTick_316 rfl ?_
                                          refine ca_iload h dL_isTick_317 rfl ?_
                                          refine oa_iald h (j := m) rfl hv3 rfl (by omega) (by decide) dL_isTick_319 ?_
                                          refine ca_top (y := nI s) ((hce m hm).trans h5) ?_
                                          refine oa_aald h (j := s) rfl (by decide) hv5 rfl (by omega) (by decide) (h5i s (by omega)).2 dL_isTick_320 ?_
                                          show ch_W X E _ _ _ _ _ _ _ (.ref (S.1 20 48 s) :: _)
                                          refine ca_iload h dL_isTick_321 rfl ?_
                                          refine oa_iald h (j := b) rfl (h5i s (by omega)).1 rfl (by omega) (by decide) dL_isTick_323 ?_
                                          refine ca_top (y := n 2 (8 * s + b) 2) (hwe s b hn1 hsc) ?_
                                          refine ca_icmp_le (tgt := 331) h dL_isTick_324 (by decide) (fun c_324 => ?_) (fun c_324 => ?_)
                                          ·
                                            refine ca_iconst h dL_isTick_331 ik_0 ?_
                                            refine ca_istore h dL_isTick_332 rfl ?_
                                            refine ca_iload h dL_isTick_334 rfl ?_
                                            refine ca_iload h dL_isTick_336 rfl ?_
                                            refine ca_if_eq (tgt := 372) h dL_isTick_338 (by decide) (fun c_338 => ?_) (fun c_338 => ?_)
                                            ·
                                              refine ca_iconst h dL_isTick_372 ik_0 ?_
                                              refine ca_ior h dL_isTick_373 ?_
                                              refine ca_istore h dL_isTick_374 rfl ?_
                                              refine ca_iinc h dL_isTick_376 rfl ik_1 rfl ?_
                                              rw [show nI b + 1 = nI (b + 1) from nI_1 _]
                                              refine ca_goto (tgt := 286) h dL_isTick_379 (by decide) ?_
                                              refine ca_pick [3, 4, 5, 6, 7, 8, 9, 10, 11, 1, 0] rfl ?_
                                              refine ih_286 (b + 1) (by omega) _ ⟨by rw [Int32.or_zero]; exact h12.1, fun b' hb' hg => ?_⟩
                                              rw [Int32.or_zero]
                                              by_cases e : b' = b
                                              · subst e; exact (hg.1.elim (fun z => absurd (by rw [z]) c_301) (fun z => absurd z c_324))
                                              · exact h12.2 b' (by omega) hg
                                            · exact absurd rfl c_338
                                          ·
                                            refine ca_iconst h dL_isTick_327 ik_1 ?_
                                            refine ca_goto (tgt := 332) h dL_isTick_328 (by decide) ?_
                                            refine ca_istore h dL_isTick_332 rfl ?_
                                            refine ca_iload h dL_isTick_334 rfl ?_
                                            refine ca_iload h dL_isTick_336 rfl ?_
                                            refine ca_if_eq (tgt := 372) h dL_isTick_338 (by decide) (fun c_338 => ?_) (fun c_338 => ?_)
                                            · exact absurd c_338 (by decide)
                                            ·
                                              refine ca_aload_nr h dL_isTick_341 rfl ?_
                                              refine ca_iload h dL_isTick_342 rfl ?_
                                              refine ca_aload_nr h dL_isTick_344 rfl ?_
                                              refine ca_iload h dL_isTick_345 rfl ?_
                                              refine oa_v h hG ml_L_175 (n_X11_servingCell hs e1 hm9 (by omega)) (ci := 11) rfl rfl rfl (hs.1 _ _ _ ⟨rfl, rfl⟩) rfl rfl rfl rfl ⟨by omega, by omega⟩ rfl dL_isTick_347 ?_
                                              rw [h5f]
                                              refine oa_v h hG ml_L_144 (n_X11_successes hs e1 hc9 (by omega) (by omega)) (ci := 11) rfl rfl rfl (hs.1 _ _ _ ⟨rfl, rfl⟩) rfl rfl rfl rfl ⟨by omega, by omega⟩ rfl dL_isTick_350 ?_
                                              refine ca_aload h dL_isTick_353 rfl ?_
                                              refine ca_iload h dL_isTick_355 rfl ?_
                                              refine oa_aald h (j := b) rfl (by decide) hv5 rfl (by omega) (by decide) (h5i b (by omega)).2 dL_isTick_357 ?_
                                              show ch_W X E _ _ _ _ _ _ _ (.ref (S.1 20 48 b) :: _)
                                              refine ca_aload_nr h dL_isTick_358 rfl ?_
                                              refine ca_iload h dL_isTick_359 rfl ?_
                                              refine oa_v h hG ml_L_175 (n_X11_servingCell hs e1 hm9 (by omega)) (ci := 11) rfl rfl rfl (hs.1 _ _ _ ⟨rfl, rfl⟩) rfl rfl rfl rfl ⟨by omega, by omega⟩ rfl dL_isTick_361 ?_
                                              rw [h5f]
                                              refine oa_iald h (j := f) rfl (h5i b (by omega)).1 rfl (by omega) (by decide) dL_isTick_364 ?_
                                              refine ca_top (y := n 2 (8 * b + f) 2) (hwe b f hfc hn1) ?_
                                              refine ca_icmp_le (tgt := 372) h dL_isTick_365 (by decide) (fun c_365 => ?_) (fun c_365 => ?_)
                                              ·
                                                refine ca_iconst h dL_isTick_372 ik_0 ?_
                                                refine ca_ior h dL_isTick_373 ?_
                                                refine ca_istore h dL_isTick_374 rfl ?_
                                                refine ca_iinc h dL_isTick_376 rfl ik_1 rfl ?_
                                                rw [show nI b + 1 = nI (b + 1) from nI_1 _]
                                                refine ca_goto (tgt := 286) h dL_isTick_379 (by decide) ?_
                                                refine ca_pick [3, 4, 5, 6, 7, 8, 9, 10, 11, 1, 0] rfl ?_
                                                refine ih_286 (b + 1) (by omega) _ ⟨by rw [Int32.or_zero]; exact h12.1, fun b' hb' hg => ?_⟩
                                                rw [Int32.or_zero]
                                                by_cases e : b' = b
                                                · subst e; exact absurd hg.2 c_365
                                                · exact h12.2 b' (by omega) hg
                                              ·
                                                refine ca_iconst h dL_isTick_368 ik_1 ?_
                                                refine ca_goto (tgt := 373) h dL_isTick_369 (by decide) ?_
                                                refine ca_ior h dL_isTick_373 ?_
                                                refine ca_istore h dL_isTick_374 rfl ?_
                                                refine ca_iinc h dL_isTick_376 rfl ik_1 rfl ?_
                                                rw [show nI b + 1 = nI (b + 1) from nI_1 _]
                                                refine ca_goto (tgt := 286) h dL_isTick_379 (by decide) ?_
                                                refine ca_pick [3, 4, 5, 6, 7, 8, 9, 10, 11, 1, 0] rfl ?_
                                                refine ih_286 (b + 1) (by omega) _ ⟨?_, fun b' hb' hg => ?_⟩
                                                · rcases h12.1 with z | z <;> rw [z] <;> decide
                                                · rcases h12.1 with z | z <;> rw [z] <;> decide
                                  refine ca_pick [2, 3, 4, 5, 6, 7, 8, 9, 10, 1, 0] rfl ?_
                                  exact loop_286 (k_cc n) 0 (by omega) 0 ⟨Or.inl rfl, fun b' hb => absurd hb (Nat.not_lt_zero b')⟩
                                ·
                                  refine ca_goto (tgt := 389) h dL_isTick_277 (by decide) ?_
                                  refine ca_iinc h dL_isTick_389 rfl ik_1 rfl ?_
                                  rw [show nI m + 1 = nI (m + 1) from nI_1 _]
                                  refine ca_goto (tgt := 179) h dL_isTick_392 (by decide) ?_
                                  refine ca_pick [1, 2, 3, 4, 5, 6, 7, 8, 0] rfl ?_
                                  exact ih_179 (m + 1) (by omega) _ e10
                          refine ca_aload h dL_isTick_207 rfl ?_
                          refine ca_iload h dL_isTick_209 rfl ?_
                          refine oa_iald h (j := m) rfl hv4 rfl (by omega) (by decide) dL_isTick_211 ?_
                          refine ca_top (y := n 3 m 4) (hst m hn1) ?_
                          refine ca_if_ne (tgt := 224) h dL_isTick_212 (by decide) (fun c_212 => ?_) (fun c_212 => ?_)
                          ·
                            refine ca_aload h dL_isTick_224 rfl ?_
                            refine ca_iload h dL_isTick_226 rfl ?_
                            refine oa_iald h (j := m) rfl hv4 rfl (by omega) (by decide) dL_isTick_228 ?_
                            refine ca_top (y := n 3 m 4) (hst m hn1) ?_
                            refine ca_iconst h dL_isTick_229 ik_1 ?_
                            refine ca_icmp_ne (tgt := 245) h dL_isTick_230 (by decide) (fun c_230 => ?_) (fun c_230 => ?_)
                            ·
                              refine ca_pick [0, 1, 2, 3, 4, 5, 6, 7, 8] rfl ?_
                              exact K_245 trivial
                            ·
                              refine ca_aload_nr h dL_isTick_233 rfl ?_
                              refine ca_iload h dL_isTick_234 rfl ?_
                              refine oa_v h hG ml_L_170 (n_X11_state hs e1 hm9 (by omega)) (ci := 11) rfl rfl rfl (hs.1 _ _ _ ⟨rfl, rfl⟩) rfl rfl rfl rfl ⟨by omega, by omega⟩ rfl dL_isTick_236 ?_
                              refine ca_iconst h dL_isTick_239 ik_2 ?_
                              refine ca_icmp_ne (tgt := 245) h dL_isTick_240 (by decide) (fun c_240 => ?_) (fun c_240 => ?_)
                              ·
                                refine ca_pick [0, 1, 2, 3, 4, 5, 6, 7, 8] rfl ?_
                                exact K_245 trivial
                              · exact absurd c_240 (fun z => by rcases (hT.1 m hn1).2 c_230 with y | y <;> (rw [y] at z; exact absurd z (by decide)))
                          ·
                            refine ca_aload_nr h dL_isTick_215 rfl ?_
                            refine ca_iload h dL_isTick_216 rfl ?_
                            refine oa_v h hG ml_L_170 (n_X11_state hs e1 hm9 (by omega)) (ci := 11) rfl rfl rfl (hs.1 _ _ _ ⟨rfl, rfl⟩) rfl rfl rfl rfl ⟨by omega, by omega⟩ rfl dL_isTick_218 ?_
                            refine ca_if_ne (tgt := 243) h dL_isTick_221 (by decide) (fun c_221 => ?_) (fun c_221 => ?_)
                            · exact absurd (((hT.1 m hn1).1 c_212)) c_221
                            ·
                              refine ca_aload h dL_isTick_224 rfl ?_
                              refine ca_iload h dL_isTick_226 rfl ?_
                              refine oa_iald h (j := m) rfl hv4 rfl (by omega) (by decide) dL_isTick_228 ?_
                              refine ca_top (y := n 3 m 4) (hst m hn1) ?_
                              refine ca_iconst h dL_isTick_229 ik_1 ?_
                              refine ca_icmp_ne (tgt := 245) h dL_isTick_230 (by decide) (fun c_230 => ?_) (fun c_230 => ?_)
                              ·
                                refine ca_pick [0, 1, 2, 3, 4, 5, 6, 7, 8] rfl ?_
                                exact K_245 trivial
                              ·
                                refine ca_aload_nr h dL_isTick_233 rfl ?_
                                refine ca_iload h dL_isTick_234 rfl ?_
                                refine oa_v h hG ml_L_170 (n_X11_state hs e1 hm9 (by omega)) (ci := 11) rfl rfl rfl (hs.1 _ _ _ ⟨rfl, rfl⟩) rfl rfl rfl rfl ⟨by omega, by omega⟩ rfl dL_isTick_236 ?_
                                refine ca_iconst h dL_isTick_239 ik_2 ?_
                                refine ca_icmp_ne (tgt := 245) h dL_isTick_240 (by decide) (fun c_240 => ?_) (fun c_240 => ?_)
                                ·
                                  refine ca_pick [0, 1, 2, 3, 4, 5, 6, 7, 8] rfl ?_
                                  exact K_245 trivial
                                · exact absurd c_240 (fun z => by rcases (hT.1 m hn1).2 c_230 with y | y <;> (rw [y] at z; exact absurd z (by decide)))
                        refine ca_aload h dL_isTick_185 rfl ?_
                        refine ca_iload h dL_isTick_187 rfl ?_
                        refine oa_iald h (j := m) rfl hv4 rfl (by omega) (by decide) dL_isTick_189 ?_
                        refine ca_top (y := n 3 m 4) (hst m hn1) ?_
                        refine ca_iconst h dL_isTick_190 ik_1 ?_
                        refine ca_icmp_ne (tgt := 207) h dL_isTick_191 (by decide) (fun c_191 => ?_) (fun c_191 => ?_)
                        ·
                          refine ca_pick [0, 1, 2, 3, 4, 5, 6, 7, 8] rfl ?_
                          exact K_207 _ (by rw [kf_s, if_neg (fun z => c_191 z.1)])
                        ·
                          refine ca_aload_nr h dL_isTick_194 rfl ?_
                          refine ca_iload h dL_isTick_195 rfl ?_
                          refine oa_v h hG ml_L_170 (n_X11_state hs e1 hm9 (by omega)) (ci := 11) rfl rfl rfl (hs.1 _ _ _ ⟨rfl, rfl⟩) rfl rfl rfl rfl ⟨by omega, by omega⟩ rfl dL_isTick_197 ?_
                          refine ca_iconst h dL_isTick_200 ik_1 ?_
                          refine ca_icmp_eq (tgt := 207) h dL_isTick_201 (by decide) (fun c_201 => ?_) (fun c_201 => ?_)
                          ·
                            refine ca_pick [0, 1, 2, 3, 4, 5, 6, 7, 8] rfl ?_
                            exact K_207 _ (by rw [kf_s, if_neg (fun z => z.2 c_201)])
                          ·
                            refine ca_iinc h dL_isTick_204 rfl ik_1 rfl ?_
                            refine ca_pick [1, 2, 3, 4, 5, 6, 7, 0, 8] rfl ?_
                            exact K_207 _ (by rw [kf_s, if_pos ⟨c_191, c_201⟩])
                  refine ca_pick [6, 7, 8, 9, 10, 11, 4, 1, 0] rfl ?_
                  exact loop_179 (k_mc n) 0 (by omega) _ rfl
                · exact absurd ecl c_168
            · exact absurd c_71 (by rw [hn]; exact Int32.lt_irrefl)
          | succ jj ih_65 =>
            intro a hn μ2 hm2 hce hst hwe
            have hn1 : a < k_cc n := by omega
            have ha := hn1
            have e0 : μ2 0 = n := (hm2 0 (by decide)).trans eb
            have hN : o_NW n w S μ2 := o_NW_x Nb rfl rfl rfl rfl rfl (hm2 16 (by decide)) (hm2 18 (by decide))
            refine ca_iload h dL_isTick_65 rfl ?_
            refine ca_aload_nr h dL_isTick_67 rfl ?_
            refine gi_L_31 h (hN.st.1 _ _ _ (by show _ ∧ _; omega)) dL_isTick_68 ?_
            refine ca_top (y := nI (k_cc n)) hN.cells ?_
            refine ca_icmp_ge (tgt := 114) h dL_isTick_71 (by decide) (fun c_71 => ?_) (fun c_71 => ?_)
            · exact absurd (nI_lt hn1 (by omega)) c_71
            ·
              refine ca_iconst h dL_isTick_74 ik_0 ?_
              refine ca_istore h dL_isTick_75 rfl ?_
              have loop_77 : ∀ (jj b : Nat), b + jj = k_cc n → ∀ (μ2 : ch_M) (hm2 : ∀ k, k ≠ 20 → μ2 k = μ k) (hce : ∀ t, t < k_mc n → μ2 20 52 0 t = n 3 t 5) (hst : ∀ t, t < k_mc n → μ2 20 52 1 t = n 3 t 4) (hwe : ∀ a' b', b' < k_cc n → (a' < a ∨ (a' = a ∧ b' < b)) → μ2 20 48 a' b' = n 2 (8 * a' + b') 2), ch_W X E 15 S μ2 11 96 77 [(0, .ref (S.1 15 11 0)), (1, .ref (S.1 16 22 0)), (2, .int (nI (k_mc n))), (3, .ref (S.1 20 52 0)), (4, .ref (S.1 20 52 1)), (5, .ref (S.1 20 24 0)), (6, .int (nI a)), (7, .int (nI b))] [] := by
                intro jj
                induction jj with
                | zero =>
                  intro b hn μ2 hm2 hce hst hwe
                  have hn : b = k_cc n := by omega
                  have e0 : μ2 0 = n := (hm2 0 (by decide)).trans eb
                  have hN : o_NW n w S μ2 := o_NW_x Nb rfl rfl rfl rfl rfl (hm2 16 (by decide)) (hm2 18 (by decide))
                  refine ca_iload h dL_isTick_77 rfl ?_
                  refine ca_aload_nr h dL_isTick_79 rfl ?_
                  refine gi_L_31 h (hN.st.1 _ _ _ (by show _ ∧ _; omega)) dL_isTick_80 ?_
                  refine ca_top (y := nI (k_cc n)) hN.cells ?_
                  refine ca_icmp_ge (tgt := 108) h dL_isTick_83 (by decide) (fun c_83 => ?_) (fun c_83 => ?_)
                  ·
                    refine ca_iinc h dL_isTick_108 rfl ik_1 rfl ?_
                    rw [show nI a + 1 = nI (a + 1) from nI_1 _]
                    refine ca_goto (tgt := 65) h dL_isTick_111 (by decide) ?_
                    refine ca_pick [1, 2, 3, 4, 5, 6, 0] rfl ?_
                    exact ih_65 (a + 1) (by omega) μ2 hm2 hce hst (fun a' b' hb z => hwe a' b' hb (by omega))
                  · exact absurd c_83 (by rw [hn]; exact Int32.lt_irrefl)
                | succ jj ih_77 =>
                  intro b hn μ2 hm2 hce hst hwe
                  have hn1 : b < k_cc n := by omega
                  have e0 : μ2 0 = n := (hm2 0 (by decide)).trans eb
                  have hN : o_NW n w S μ2 := o_NW_x Nb rfl rfl rfl rfl rfl (hm2 16 (by decide)) (hm2 18 (by decide))
                  refine ca_iload h dL_isTick_77 rfl ?_
                  refine ca_aload_nr h dL_isTick_79 rfl ?_
                  refine gi_L_31 h (hN.st.1 _ _ _ (by show _ ∧ _; omega)) dL_isTick_80 ?_
                  refine ca_top (y := nI (k_cc n)) hN.cells ?_
                  refine ca_icmp_ge (tgt := 108) h dL_isTick_83 (by decide) (fun c_83 => ?_) (fun c_83 => ?_)
                  · exact absurd (nI_lt hn1 (by omega)) c_83
                  ·
                    refine ca_aload h dL_isTick_86 rfl ?_
                    refine ca_iload h dL_isTick_88 rfl ?_
                    refine oa_aald h (j := a) rfl (by decide) hv5 rfl (by omega) (by decide) (h5i a (by omega)).2 dL_isTick_90 ?_
                    show ch_W X E _ _ _ _ _ _ _ (.ref (S.1 20 48 a) :: _)
                    refine ca_iload h dL_isTick_91 rfl ?_
                    refine ca_aload_nr h dL_isTick_93 rfl ?_
                    refine ca_iload h dL_isTick_94 rfl ?_
                    refine ca_iload h dL_isTick_96 rfl ?_
                    refine oa_v h hG ml_L_144 (n_X11_successes hs e0 hc8 ha hn1) (ci := 11) rfl rfl rfl (hs.1 _ _ _ ⟨rfl, rfl⟩) rfl rfl rfl rfl ⟨by omega, by omega⟩ rfl dL_isTick_98 ?_
                    refine oa_iast h (j := b) rfl (h5i a (by omega)).1 rfl (by omega) (by decide) dL_isTick_101 ?_
                    refine ca_iinc h dL_isTick_102 rfl ik_1 rfl ?_
                    rw [show nI b + 1 = nI (b + 1) from nI_1 _]
                    refine ca_goto (tgt := 77) h dL_isTick_105 (by decide) ?_
                    refine ca_pick [1, 2, 3, 4, 5, 6, 7, 0] rfl ?_
                    refine ih_77 (b + 1) (by omega) _ (fun k hk => by unfold ch_st; rw [up_n hk]; exact hm2 k hk) (fun t ht => by rw [ch_st_at, if_neg (by omega)]; exact hce t ht) (fun t ht => by rw [ch_st_at, if_neg (by omega)]; exact hst t ht) (fun a' b' hb z => ?_)
                    rw [ch_st_at]
                    by_cases e : a' = a ∧ b' = b
                    · obtain ⟨rfl, rfl⟩ := e; rw [if_pos ⟨rfl, rfl, rfl, rfl⟩]
                    · rw [if_neg (fun y => e y.2.2)]; exact hwe a' b' hb (by omega)
              refine ca_pick [1, 2, 3, 4, 5, 6, 7, 0] rfl ?_
              exact loop_77 (k_cc n) 0 (by omega) μ2 hm2 hce hst hwe
        refine ca_pick [1, 2, 3, 4, 5, 6, 0] rfl ?_
        exact loop_65 (k_cc n) 0 (by omega) μ2 hm2 hce hst (fun a' b' _ z => absurd z (by omega))
      · exact absurd c_32 (by rw [hn]; exact Int32.lt_irrefl)
    | succ jj ih_29 =>
      intro m hn μ2 hm2 hce hst
      have hn1 : m < k_mc n := by omega
      have e0 : μ2 0 = n := (hm2 0 (by decide)).trans eb
      have hN : o_NW n w S μ2 := o_NW_x Nb rfl rfl rfl rfl rfl (hm2 16 (by decide)) (hm2 18 (by decide))
      refine ca_iload h dL_isTick_29 rfl ?_
      refine ca_iload_n h dL_isTick_31 rfl ?_
      refine ca_icmp_ge (tgt := 62) h dL_isTick_32 (by decide) (fun c_32 => ?_) (fun c_32 => ?_)
      · exact absurd (nI_lt hn1 (by omega)) c_32
      ·
        refine ca_aload_nr h dL_isTick_35 rfl ?_
        refine ca_iload h dL_isTick_36 rfl ?_
        refine ca_aload_nr h dL_isTick_38 rfl ?_
        refine ca_iload h dL_isTick_39 rfl ?_
        refine oa_v h hG ml_L_175 (n_X11_servingCell hs e0 hm12 hn1) (ci := 11) rfl rfl rfl (hs.1 _ _ _ ⟨rfl, rfl⟩) rfl rfl rfl rfl ⟨by omega, by omega⟩ rfl dL_isTick_41 ?_
        refine oa_iast h (j := m) rfl hv3 rfl (by omega) (by decide) dL_isTick_44 ?_
        refine ca_aload h dL_isTick_45 rfl ?_
        refine ca_iload h dL_isTick_47 rfl ?_
        refine ca_aload_nr h dL_isTick_49 rfl ?_
        refine ca_iload h dL_isTick_50 rfl ?_
        refine oa_v h hG ml_L_170 (n_X11_state hs (show ch_st μ2 20 52 0 m (n 3 m 5) 0 = n by unfold ch_st; exact (up_n (by decide)).trans e0) hm12 hn1) (ci := 11) rfl rfl rfl (hs.1 _ _ _ ⟨rfl, rfl⟩) rfl rfl rfl rfl ⟨by omega, by omega⟩ rfl dL_isTick_52 ?_
        refine oa_iast h (j := m) rfl hv4 rfl (by omega) (by decide) dL_isTick_55 ?_
        refine ca_iinc h dL_isTick_56 rfl ik_1 rfl ?_
        rw [show nI m + 1 = nI (m + 1) from nI_1 _]
        refine ca_goto (tgt := 29) h dL_isTick_59 (by decide) ?_
        refine ca_pick [1, 2, 3, 4, 5, 6, 0] rfl ?_
        refine ih_29 (m + 1) (by omega) _ (fun k hk => by unfold ch_st; rw [up_n hk, up_n hk]; exact hm2 k hk) (fun t ht => ?_) (fun t ht => ?_)
        · rw [ch_st_at, if_neg (by omega), ch_st_at]
          by_cases e : t = m
          · subst e; rw [if_pos ⟨rfl, rfl, rfl, rfl⟩]
          · rw [if_neg (fun z => e z.2.2.2)]; exact hce t (by omega)
        · rw [ch_st_at]
          by_cases e : t = m
          · subst e; rw [if_pos ⟨rfl, rfl, rfl, rfl⟩]
          · rw [if_neg (fun z => e z.2.2.2), ch_st_at, if_neg (by omega)]; exact hst t (by omega)
  refine ca_pick [5, 6, 4, 3, 2, 1, 0] rfl ?_
  exact loop_29 (k_mc n) 0 (by omega) μ (fun _ _ => rfl) (fun t ht => absurd ht (Nat.not_lt_zero t)) (fun t ht => absurd ht (Nat.not_lt_zero t))
