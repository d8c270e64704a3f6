set_option maxHeartbeats 800000 in
theorem c_best {X : ch_X} {E : ch_E} {C B u j t T a b d0 h0 : Nat} {S S0 : ch_S} {μ μ0 : ch_M} (h : ch_H X E RL cL_isBest 13) (hG : ch_G X 8 0 0) (hR : ch_R X E (some FieldType.boolean) 0 0 (fun v' S' μ' => v' = some (.int 1) ∧ S' = S ∧ o_U j u μ0 μ')) (hs : ch_Std E S) (hv22 : S.2.1 16 22 0) (hZ : o_Z C μ0) (hJ : s_J B (μ0 0)) (hB : B + 108 * T + 200 < 2 ^ 31) (ht : μ0 0 0 0 3 = nI t) (htT : t + T ≤ 100000) (hT : T ≤ 30) (ha : a < C) (hb : b < C) (hu : μ0 15 14 0 0 = nI u) (hu10 : u ≤ 10) (hj : j < 12) (hnx : μ0 15 14 0 1 = nI j) (ed : μ0 0 7 0 3 = nI d0) (hd31 : d0 < 2 ^ 31) (eh : μ0 0 7 0 0 = nI h0) (hh31 : h0 < 2 ^ 31) (hex : ¬ μ0 0 2 (8 * a + b) 0 = 0) {bv : Int32} (hbv : bv = (r_bh (fun v => o_tr (μ0 0) (μ0 15) T (8 * a + b) v 7 0 3) (fun v => o_tr (μ0 0) (μ0 15) T (8 * a + b) v 7 0 0) 31).1) (hUb : o_U j u μ0 μ) : ch_W X E 13 S μ 0 0 51 [(0, .ref (S.1 15 11 0)), (1, .ref (S.1 16 22 0)), (2, .int (nI a)), (3, .int (nI b)), (4, .int (nI T)), (6, .int bv)] [] := by
  have hw := hZ.wf
  have hc8 := hw.2.1
  have hcC := hZ.2.1.2.2
  have hr : 8 * a + b < 64 := by omega
  have hA : ∀ v, v < 31 → s_J B (nw (μ0 0) 2 (8 * a + b) 1 (nI v)) := fun v hv => s_J_hys hJ hr (nI_pos (by omega)) (nI_nlt (a := 30) (by omega) (by decide))
  have hTr : ∀ v, v < 31 → s_J (B + 108 * T) (o_tr (μ0 0) (μ0 15) T (8 * a + b) v) := fun v hv => s_J_adv T B t (nw (μ0 0) 2 (8 * a + b) 1 (nI v), μ0 15) (hA v hv) (by omega) (by show nw (μ0 0) 2 (8 * a + b) 1 (nI v) 0 0 3 = nI t; rw [nw_k (by decide)]; exact ht) (by omega)
  have hD : ∀ w, w < 31 → ∃ x, (fun v => o_tr (μ0 0) (μ0 15) T (8 * a + b) v 7 0 3) w = nI x ∧ x < 2 ^ 31 := fun w h => by obtain ⟨x, y, -, -, e, g⟩ := s_J_t0 (hTr w h) (by omega); exact ⟨y, e, g⟩
  have hH : ∀ w, w < 31 → ∃ x, (fun v => o_tr (μ0 0) (μ0 15) T (8 * a + b) v 7 0 0) w = nI x ∧ x < 2 ^ 31 := fun w h => by obtain ⟨x, y, e, g, -, -⟩ := s_J_t0 (hTr w h) (by omega); exact ⟨x, e, g⟩
  refine ca_iconst h dL_isBest_51 ik_m1 ?_
  refine ca_istore h dL_isBest_52 rfl ?_
  refine ca_iconst h dL_isBest_54 ik_m1 ?_
  refine ca_istore h dL_isBest_55 rfl ?_
  refine ca_iconst h dL_isBest_57 ik_m1 ?_
  refine ca_istore h dL_isBest_58 rfl ?_
  refine ca_iconst h dL_isBest_60 ik_0 ?_
  refine ca_istore h dL_isBest_61 rfl ?_
  have loop_63 : ∀ (jj n : Nat), n + jj = 31 → ∀ (x9 : Int32) (x7 : Int32) (x8 : Int32) (μi : ch_M) (hst : o_bs (fun v => o_tr (μ0 0) (μ0 15) T (8 * a + b) v 7 0 3) (fun v => o_tr (μ0 0) (μ0 15) T (8 * a + b) v 7 0 0) (nI d0) (nI h0) n x9 x7 x8) (hU : o_U j u μ0 μi), ch_W X E 13 S μi 0 0 63 [(0, .ref (S.1 15 11 0)), (1, .ref (S.1 16 22 0)), (2, .int (nI a)), (3, .int (nI b)), (4, .int (nI T)), (6, .int bv), (7, .int x7), (8, .int x8), (9, .int x9), (10, .int (nI n))] [] := by
    intro jj
    induction jj with
    | zero =>
      intro n hn x9 x7 x8 μi hst hU
      have hn : n = 31 := by omega
      have h31 : n = 31 := by omega
      subst h31
      refine ca_iload h dL_isBest_63 rfl ?_
      refine ca_bipush h dL_isBest_65 bk_30 ?_
      refine ca_icmp_gt (tgt := 161) h dL_isBest_67 (by decide) (fun c_67 => ?_) (fun c_67 => ?_)
      ·
        refine ca_iload h dL_isBest_161 rfl ?_
        refine ca_iload h dL_isBest_163 rfl ?_
        refine ca_icmp_ne (tgt := 172) h dL_isBest_165 (by decide) (fun c_165 => ?_) (fun c_165 => ?_)
        · refine absurd ?_ c_165
          rcases hst with ⟨z, -⟩ | ⟨-, e9, -, -⟩
          · exact absurd z (by decide)
          · rw [hbv, e9]
        ·
          refine ca_iconst h dL_isBest_168 ik_1 ?_
          refine ca_goto (tgt := 173) h dL_isBest_169 (by decide) ?_
          refine ca_ireturn h hR rfl dL_isBest_173 ?_
          exact ⟨rfl, rfl, hU⟩
      · exact absurd (show (30 : Int32) < nI 31 by decide) c_67
    | succ jj ih_63 =>
      intro n hn x9 x7 x8 μi hst hU
      have hn1 : n < 31 := by omega
      obtain ⟨i0, i2, ii, i16, i11, iu, ij, ic⟩ := id hU
      have hgd := gd_ag i0 (ic 0 (by decide)) hZ.2.1
      have hexi : ¬ μi 0 2 (8 * a + b) 0 = 0 := by rw [ag_2 i0 hr (by decide)]; exact hex
      refine ca_iload h dL_isBest_63 rfl ?_
      refine ca_bipush h dL_isBest_65 bk_30 ?_
      refine ca_icmp_gt (tgt := 161) h dL_isBest_67 (by decide) (fun c_67 => ?_) (fun c_67 => ?_)
      · exact absurd c_67 (nI_nlt (a := 30) (by omega) (by decide))
      ·
        refine ca_aload_nr h dL_isBest_70 rfl ?_
        refine ca_iload_n h dL_isBest_71 rfl ?_
        refine ca_iload_n h dL_isBest_72 rfl ?_
        refine ca_iload h dL_isBest_73 rfl ?_
        refine oa_v h hG ml_L_241 (c_X11_setHysteresis hs (by rw [hgd.2.2, ← hcC]; exact hc8) (by rw [hgd.2.2]; exact ha) (by rw [hgd.2.2]; exact hb) (v := nI n) ⟨nI_pos (by omega), nI_nlt (a := 30) (by omega) (by decide)⟩ hexi hj ij) (ci := 11) rfl rfl rfl (hs.1 _ _ _ ⟨rfl, rfl⟩) rfl rfl rfl rfl ⟨Nat.le_refl _, Nat.le_refl _⟩ rfl dL_isBest_75 ?_
        have hR0 := R1_set (x := 12) (N := nw (μi 0) 2 (8 * a + b) 1 (nI n)) hj iu (by omega) ij
        generalize up (k_rcm μi j) 0 (nw (μi 0) 2 (8 * a + b) 1 (nI n)) = μa at hR0 ⊢
        have ac := R1_c8 hR0 ic (c8_wf (nw2_wf hgd.1 _ _ _))
        have a0 := hR0.1
        have au := hR0.2.2.2.2.2.2.2.1
        have aj := hR0.2.2.2.2.2.2.2.2
        have a7 : μa 0 7 0 = μ0 0 7 0 := by rw [a0, nw_k (by decide)]; exact i0.2.2.2.2.2
        refine ca_pop h dL_isBest_78 rfl ?_
        refine ca_aload_nr h dL_isBest_79 rfl ?_
        refine ca_iconst h dL_isBest_80 ik_3 ?_
        refine oa_v h hG ml_L_113 (c_X11_total hs) (ci := 11) rfl rfl rfl (hs.1 _ _ _ ⟨rfl, rfl⟩) rfl rfl rfl rfl ⟨Nat.le_refl _, Nat.le_refl _⟩ rfl dL_isBest_81 ?_
        rw [show k_tot (μa 0) 3 = μa 0 7 0 3 from rfl, a7, ed]
        refine ca_istore h dL_isBest_84 rfl ?_
        refine ca_aload_nr h dL_isBest_86 rfl ?_
        refine ca_iload h dL_isBest_87 rfl ?_
        refine oa_v h hG ml_L_245 (c_X11_run hs (by rw [a0]; exact nw2_wf hgd.1 _ _ _) (T := T) (by omega) (by rw [a0]; exact k_tk9_nI (M := 60) (t := t) (by rw [nw_k (by decide), ag_0 i0 (by decide)]; exact ht) htT (by omega) (by decide)) (j := (j + 1) % 12) (by omega) aj) (ci := 11) rfl rfl rfl (hs.1 _ _ _ ⟨rfl, rfl⟩) rfl rfl rfl rfl ⟨Nat.le_refl _, Nat.le_refl _⟩ rfl dL_isBest_89 ?_
        have hagN := (ag_adv T B (nw (μ0 0) 2 (8 * a + b) 1 (nI n), μ0 15) (nw (μi 0) 2 (8 * a + b) 1 (nI n), k_rec (μa 15)) (hA n hn1).1 (ag_nw (ag_sym i0) _ _ _ _)).2
        have hwN : k_wf (k_adv T (nw (μi 0) 2 (8 * a + b) 1 (nI n), k_rec (μa 15))).1 := k_adv_wf T (nw (μi 0) 2 (8 * a + b) 1 (nI n), k_rec (μa 15)) (nw2_wf hgd.1 _ _ _)
        have hqN : ∀ kd, kd ≤ 16 → (k_adv T (nw (μi 0) 2 (8 * a + b) 1 (nI n), k_rec (μa 15))).2 kd = k_rec (μa 15) kd := fun kd h => k_adv_k h T (nw (μi 0) 2 (8 * a + b) 1 (nI n), k_rec (μa 15))
        rw [a7, eh, a0]
        generalize k_adv T (nw (μi 0) 2 (8 * a + b) 1 (nI n), k_rec (μa 15)) = NQ at hagN hwN hqN ⊢
        have hR1 := R1_mk (x := 12) (N := NQ.1) (q := NQ.2) (u := u + 1) (j := (j + 1) % 12) (by omega) au (by omega) aj ((hqN 11 (by decide)).trans (rec_k (by decide))) (hqN 14 (by decide))
        generalize up (up (k_rcm μa ((j + 1) % 12)) 0 NQ.1) 15 NQ.2 = μ2 at hR1 ⊢
        have bc := R1_c8 hR1 ac (c8_wf hwN)
        have b0 : μ2 0 = NQ.1 := hR1.1
        have b14u := hR1.2.2.2.2.2.2.2.1
        have b14j := hR1.2.2.2.2.2.2.2.2
        have e70 : NQ.1 7 0 0 = (fun v => o_tr (μ0 0) (μ0 15) T (8 * a + b) v 7 0 0) n := by rw [← hagN.2.2.2.2.2]; rfl
        have e73 : NQ.1 7 0 3 = (fun v => o_tr (μ0 0) (μ0 15) T (8 * a + b) v 7 0 3) n := by rw [← hagN.2.2.2.2.2]; rfl
        rw [e70]
        refine ca_istore h dL_isBest_92 rfl ?_
        refine ca_aload_nr h dL_isBest_94 rfl ?_
        refine ca_iconst h dL_isBest_95 ik_3 ?_
        refine oa_v h hG ml_L_113 (c_X11_total hs) (ci := 11) rfl rfl rfl (hs.1 _ _ _ ⟨rfl, rfl⟩) rfl rfl rfl rfl ⟨Nat.le_refl _, Nat.le_refl _⟩ rfl dL_isBest_96 ?_
        rw [show k_tot (μ2 0) 3 = μ2 0 7 0 3 from rfl, b0, e73]
        refine ca_iload h dL_isBest_99 rfl ?_
        refine ca_isub h dL_isBest_101 ?_
        refine ca_top (y := (fun v => o_tr (μ0 0) (μ0 15) T (8 * a + b) v 7 0 3) n - nI d0) rfl ?_
        refine ca_istore h dL_isBest_102 rfl ?_
        refine ca_aload_nr h dL_isBest_104 rfl ?_
        refine oa_v h hG ml_L_258 (c_X11_undo hs (v := u + 1) (by omega) b14u (j := ((j + 1) % 12 + 1) % 12) (by omega) b14j) (ci := 11) rfl rfl rfl (hs.1 _ _ _ ⟨rfl, rfl⟩) rfl rfl rfl rfl ⟨Nat.le_refl _, Nat.le_refl _⟩ rfl dL_isBest_105 ?_
        obtain ⟨m0, m1, m2, mi, m16, m11, m14u, m14j, mc⟩ := undo_1 hR1 (by omega) bc
        generalize up (up μ2 0 (k_cp (μ2 0) (μ2 (3 + k_lx (((j + 1) % 12 + 1) % 12))))) 15 (k_tkb (μ2 15) (((j + 1) % 12 + 1) % 12)) = μm at m0 m1 m2 mi m16 m11 m14u m14j mc ⊢
        have hjj : j ≠ (j + 1) % 12 := by omega
        have hR2 : o_R1 u j ((j + 1) % 12) μi μm (μm 0) := ⟨rfl, m1.trans hR0.2.1, m2.trans hR0.2.2.1, (mi j hj hjj (by omega)).trans hR0.2.2.2.1, fun i hi h1 h2 => (mi i hi h2 (by omega)).trans (hR0.2.2.2.2.1 i hi h1 (by omega)), fun k hk => (m16 k hk).trans (hR0.2.2.2.2.2.1 k hk), m11.trans hR0.2.2.2.2.2.2.1, m14u, m14j⟩
        refine ca_pop h dL_isBest_108 rfl ?_
        refine ca_aload_nr h dL_isBest_109 rfl ?_
        refine oa_v h hG ml_L_258 (c_X11_undo hs (v := u) (by omega) m14u (j := (j + 1) % 12) (by omega) m14j) (ci := 11) rfl rfl rfl (hs.1 _ _ _ ⟨rfl, rfl⟩) rfl rfl rfl rfl ⟨Nat.le_refl _, Nat.le_refl _⟩ rfl dL_isBest_110 ?_
        obtain ⟨n0, n1, n2, ni, n16, n11, n14u, n14j, nc⟩ := undo_1 hR2 hj mc
        generalize up (up μm 0 (k_cp (μm 0) (μm (3 + k_lx ((j + 1) % 12))))) 15 (k_tkb (μm 15) ((j + 1) % 12)) = μ3 at n0 n1 n2 ni n16 n11 n14u n14j nc ⊢
        have hU3 : o_U j u μ0 μ3 := ⟨ag_tr n0 i0, n2.trans i2, fun i hi h1 h2 => (ni i hi h1 h2).trans (ii i hi h1 h2), fun k hk => (n16 k hk).trans (i16 k hk), n11.trans i11, n14u, n14j, nc⟩
        refine ca_pop h dL_isBest_113 rfl ?_
        refine ca_iload h dL_isBest_114 rfl ?_
        refine ca_if_lt (tgt := 143) h dL_isBest_116 (by decide) (fun c_116 => ?_) (fun c_116 => ?_)
        ·
          refine ca_iload h dL_isBest_143 rfl ?_
          refine ca_istore h dL_isBest_145 rfl ?_
          refine ca_iload h dL_isBest_147 rfl ?_
          refine ca_istore h dL_isBest_149 rfl ?_
          refine ca_iload h dL_isBest_151 rfl ?_
          refine ca_istore h dL_isBest_153 rfl ?_
          refine ca_iinc h dL_isBest_155 rfl ik_1 rfl ?_
          rw [show nI n + 1 = nI (n + 1) from nI_1 _]
          refine ca_goto (tgt := 63) h dL_isBest_158 (by decide) ?_
          refine ca_pick [6, 7, 8, 9, 10, 11, 2, 1, 3, 0] rfl ?_
          exact ih_63 (n + 1) (by omega) (nI n) _ _ μ3 (o_bs_set hst hn1 hD hH hd31 hh31 (Or.inl c_116)) hU3
        ·
          refine ca_iload h dL_isBest_119 rfl ?_
          refine ca_iload h dL_isBest_121 rfl ?_
          refine ca_icmp_gt (tgt := 155) h dL_isBest_123 (by decide) (fun c_123 => ?_) (fun c_123 => ?_)
          ·
            refine ca_iinc h dL_isBest_155 rfl ik_1 rfl ?_
            rw [show nI n + 1 = nI (n + 1) from nI_1 _]
            refine ca_goto (tgt := 63) h dL_isBest_158 (by decide) ?_
            refine ca_pick [3, 4, 5, 6, 7, 8, 9, 10, 11, 0] rfl ?_
            exact ih_63 (n + 1) (by omega) x9 x7 x8 μ3 (o_bs_keep hst hn1 hD hH hd31 hh31 c_116 (Or.inl c_123)) hU3
          ·
            refine ca_iload h dL_isBest_126 rfl ?_
            refine ca_iload h dL_isBest_128 rfl ?_
            refine ca_icmp_ne (tgt := 143) h dL_isBest_130 (by decide) (fun c_130 => ?_) (fun c_130 => ?_)
            ·
              refine ca_iload h dL_isBest_143 rfl ?_
              refine ca_istore h dL_isBest_145 rfl ?_
              refine ca_iload h dL_isBest_147 rfl ?_
              refine ca_istore h dL_isBest_149 rfl ?_
              refine ca_iload h dL_isBest_151 rfl ?_
              refine ca_istore h dL_isBest_153 rfl ?_
              refine ca_iinc h dL_isBest_155 rfl ik_1 rfl ?_
              rw [show nI n + 1 = nI (n + 1) from nI_1 _]
              refine ca_goto (tgt := 63) h dL_isBest_158 (by decide) ?_
              refine ca_pick [6, 7, 8, 9, 10, 11, 2, 1, 3, 0] rfl ?_
              exact ih_63 (n + 1) (by omega) (nI n) _ _ μ3 (o_bs_set hst hn1 hD hH hd31 hh31 (Or.inr ⟨c_123, Or.inl c_130⟩)) hU3
            ·
              refine ca_iload h dL_isBest_133 rfl ?_
              refine ca_iload h dL_isBest_135 rfl ?_
              refine ca_icmp_lt (tgt := 143) h dL_isBest_137 (by decide) (fun c_137 => ?_) (fun c_137 => ?_)
              ·
                refine ca_iload h dL_isBest_143 rfl ?_
                refine ca_istore h dL_isBest_145 rfl ?_
                refine ca_iload h dL_isBest_147 rfl ?_
                refine ca_istore h dL_isBest_149 rfl ?_
                refine ca_iload h dL_isBest_151 rfl ?_
                refine ca_istore h dL_isBest_153 rfl ?_
                refine ca_iinc h dL_isBest_155 rfl ik_1 rfl ?_
                rw [show nI n + 1 = nI (n + 1) from nI_1 _]
                refine ca_goto (tgt := 63) h dL_isBest_158 (by decide) ?_
                refine ca_pick [6, 7, 8, 9, 10, 11, 2, 1, 3, 0] rfl ?_
                exact ih_63 (n + 1) (by omega) (nI n) _ _ μ3 (o_bs_set hst hn1 hD hH hd31 hh31 (Or.inr ⟨c_123, Or.inr c_137⟩)) hU3
              ·
                refine ca_goto (tgt := 155) h dL_isBest_140 (by decide) ?_
                refine ca_iinc h dL_isBest_155 rfl ik_1 rfl ?_
                rw [show nI n + 1 = nI (n + 1) from nI_1 _]
                refine ca_goto (tgt := 63) h dL_isBest_158 (by decide) ?_
                refine ca_pick [3, 4, 5, 6, 7, 8, 9, 10, 11, 0] rfl ?_
                exact ih_63 (n + 1) (by omega) x9 x7 x8 μ3 (o_bs_keep hst hn1 hD hH hd31 hh31 c_116 (Or.inr ⟨c_130, c_137⟩)) hU3
  refine ca_pick [4, 5, 6, 7, 8, 9, 3, 2, 1, 0] rfl ?_
  exact loop_63 31 0 (by omega) (-1) (-1) (-1) μ (Or.inl ⟨rfl, rfl⟩) hUb
