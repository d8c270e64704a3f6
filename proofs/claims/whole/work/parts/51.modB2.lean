/-! THE REFERENCE: the best hysteresis -/
def r_bh (D H : Nat → Int32) : Nat → Int32 × Int32 × Int32 := fun N => kf (fun v s => if s.1 = -1 ∨ D v < s.2.1 ∨ (D v = s.2.1 ∧ H v < s.2.2) then (nI v, D v, H v) else s) N (-1, 0, 0)
theorem r_bh_s (D H : Nat → Int32) (v : Nat) : r_bh D H (v + 1) = if (r_bh D H v).1 = -1 ∨ D v < (r_bh D H v).2.1 ∨ (D v = (r_bh D H v).2.1 ∧ H v < (r_bh D H v).2.2) then (nI v, D v, H v) else r_bh D H v := rfl
theorem r_wq_wrr (μ : ch_M) (a b : Nat → Int32) (x : Int32) (w w' : Nat → Int32) : r_wq (r_wr μ w) a b x w' = r_wq μ a b x w' := by rw [r_wq_wr, r_wq_wq]
theorem r_rst {n sn tx : ch_N} {F : Int32} {u : Nat} {hst : Nat → ch_N} {μ : ch_M} {P : ch_N} {a b w2 : Nat → Int32} {x : Int32} (hJ : r_J n sn tx F u hst P) (hN : r_N n (P 25 0)) :
    ∃ P', r_cm (r_wq (up μ 16 P) a b x w2) 25 0 23 0 1302 = up μ 16 P' ∧ P' 22 0 6 = P 22 0 6 ∧ r_J n sn tx F u hst P' ∧ (∀ i, i < 1302 → P' 23 0 i = P 25 0 i) ∧ P' 25 0 = P 25 0 := by
  have e25 : r_wq (up μ 16 P) a b x w2 16 25 0 = P 25 0 := by rw [r_wq_16, na_k (by decide)]; unfold r_pq; rw [nw_k (by decide), na_k (by decide), na_k (by decide), up_s]
  have e22 : ∀ j, j ≠ 10 → r_wq (up μ 16 P) a b x w2 16 22 0 j = P 22 0 j := fun j hj => by rw [r_wq_16, na_k (by decide)]; unfold r_pq; rw [nw_at, if_neg (fun z => hj z.2.2), na_k (by decide), na_k (by decide), up_s]
  have ek : ∀ kd, kd = 26 ∨ kd = 27 ∨ kd = 30 → r_wq (up μ 16 P) a b x w2 16 kd = P kd := fun kd hk => by rw [r_wq_16, na_k (by omega)]; unfold r_pq; rw [nw_k (by omega), na_k (by omega), na_k (by omega), up_s]
  refine ⟨_, by rw [r_cm_16, e25, r_wq_up, up_s, up_up, up_up], ?_, ?_, fun i hi => ?_, ?_⟩
  · rw [na_k (by decide), e22 6 (by decide)]
  · refine r_J_mk hJ ?_ ?_ ?_ ?_ ?_ ?_ ?_ ?_
    · rw [na_fn]
      refine r_N_row hN (fun j hj => ?_)
      rw [r_cpy_r0 _ _ hj, Nat.mul_zero, Nat.zero_add]
    · rw [na_k (by decide), e22 5 (by decide)]
    · rw [na_k (by decide), e22 7 (by decide)]
    · rw [na_k (by decide), e22 12 (by decide)]
    · rw [na_k (by decide), e22 19 (by decide)]
    · rw [na_k (by decide), ek 26 (by omega)]
    · rw [na_k (by decide), ek 27 (by omega)]
    · rw [na_k (by decide), ek 30 (by omega)]
  · rw [na_fn, r_cpy_r0 _ _ hi, Nat.mul_zero, Nat.zero_add]
  · rw [na_k (by decide), e25]
set_option maxHeartbeats 400000 in
theorem c_X12_bestHysteresis {l : Launch} {E : ch_E} {S : ch_S} {μ : ch_M} (hs : ch_Std E S) {n sn tx : ch_N} {F : Int32} {u : Nat} {hst : Nat → ch_N} (hJ : r_J n sn tx F u hst (μ 16)) {a b : Nat} (ha : a < k_cc n) (hb : b < k_cc n) {T c0 : Nat} (hTk : T ≤ 30) (hc0 : n 0 0 3 = nI c0) (hcT : c0 + T ≤ 100000) (hex : ¬ n 2 (8 * a + b) 0 = 0) {D H : Nat → Int32} (hDH : ∀ v, v < 31 → ∃ nv qv, r_N nv (μ 16 23 0) ∧ D v = (k_adv T (nw nv 2 (8 * a + b) 1 (nI v), qv)).1 7 0 3 ∧ H v = (k_adv T (nw nv 2 (8 * a + b) 1 (nI v), qv)).1 7 0 0) : ch_C E l yX12_bestHysteresis cX12_bestHysteresis 11 (some FieldType.int) 9 0 0 S μ [.ref (S.1 16 22 0), .int (nI a), .int (nI b), .int (nI T)] (r_A (some (.int (r_bh D H 31).1)) 0 n sn tx F u hst S μ) := by
  refine ch_enter rfl rfl ?_
  intro X hl0 h hG hR hnm
  have h : ch_H X E RX12 cX12_bestHysteresis 11 := h
  have hN := hJ.1
  have ha8 := r_c8 hN ha
  have hb8 := r_c8 hN hb
  rcases r_find hN.2.2.2.1 ha8 hb8 hN.2.2.2.2.2.2.1 with ⟨-, z⟩ | ⟨r, hr, hr24, e1, e2, -, ea, eb, -⟩
  · exact absurd z hex
  show ch_W X E 11 S μ 0 0 0 [(0, .ref (S.1 16 22 0)), (1, .int (nI a)), (2, .int (nI b)), (3, .int (nI T))] []
  refine ca_aload_nr h dX12_bestHysteresis_0 rfl ?_
  refine ca_iconst h dX12_bestHysteresis_1 ik_0 ?_
  refine pi_X12_70 h (hs.1 _ _ _ ⟨rfl, rfl⟩) dX12_bestHysteresis_2 ?_
  refine ca_mem (μ'' := r_th μ 0) rfl ?_
  refine ca_aload_nr h dX12_bestHysteresis_5 rfl ?_
  refine ca_iload_n h dX12_bestHysteresis_6 rfl ?_
  refine ca_vi h hG ml_X12_104 (c_X12_isCell hs) (ci := 12) rfl rfl rfl (hs.1 _ _ _ ⟨rfl, rfl⟩) rfl rfl rfl rfl ⟨Nat.le_refl _, Nat.le_refl _⟩ rfl dX12_bestHysteresis_7 ?_
  refine ca_if_eq (tgt := 21) h dX12_bestHysteresis_10 (by decide) (fun c_10 => ?_) (fun c_10 => ?_)
  · exact absurd ((r_isC hN _).mpr ⟨a, ha, rfl⟩) (by have z := of_decide_eq_false (bI_0.mp c_10); rw [r_th_0] at z; exact z)
  ·
    refine ca_aload_nr h dX12_bestHysteresis_13 rfl ?_
    refine ca_iload_n h dX12_bestHysteresis_14 rfl ?_
    refine ca_vi h hG ml_X12_104 (c_X12_isCell hs) (ci := 12) rfl rfl rfl (hs.1 _ _ _ ⟨rfl, rfl⟩) rfl rfl rfl rfl ⟨Nat.le_refl _, Nat.le_refl _⟩ rfl dX12_bestHysteresis_15 ?_
    refine ca_if_ne (tgt := 27) h dX12_bestHysteresis_18 (by decide) (fun c_18 => ?_) (fun c_18 => ?_)
    ·
      refine ca_aload_nr h dX12_bestHysteresis_27 rfl ?_
      refine ca_iload_n h dX12_bestHysteresis_28 rfl ?_
      refine ca_bipush h dX12_bestHysteresis_29 bk_30 ?_
      refine ca_vi h hG ml_X12_254 (c_X12_canRun hs (n := n) (by rw [r_th_23]; exact hN)) (ci := 12) rfl rfl rfl (hs.1 _ _ _ ⟨rfl, rfl⟩) rfl rfl rfl rfl ⟨Nat.le_refl _, Nat.le_refl _⟩ rfl dX12_bestHysteresis_31 ?_
      refine ca_if_ne (tgt := 43) h dX12_bestHysteresis_34 (by decide) (fun c_34 => ?_) (fun c_34 => ?_)
      ·
        refine ca_aload_nr h dX12_bestHysteresis_43 rfl ?_
        refine ca_aload_nr h dX12_bestHysteresis_44 rfl ?_
        refine gs_X12_9 h hs ⟨rfl, rfl⟩ dX12_bestHysteresis_45 ?_
        refine ca_iload_n h dX12_bestHysteresis_48 rfl ?_
        refine ca_iload_n h dX12_bestHysteresis_49 rfl ?_
        refine ca_vi h hG ml_X12_81 (c_X12_relationOf hs (by rw [r_th_23]; exact r_24 hN)) (ci := 12) rfl rfl rfl (hs.1 _ _ _ ⟨rfl, rfl⟩) rfl rfl rfl rfl ⟨Nat.le_refl _, Nat.le_refl _⟩ rfl dX12_bestHysteresis_50 ?_
        rw [r_th_23, e1]
        refine ca_istore h dX12_bestHysteresis_53 rfl ?_
        refine ca_iload h dX12_bestHysteresis_55 rfl ?_
        refine ca_iconst h dX12_bestHysteresis_57 ik_m1 ?_
        refine ca_icmp_ne (tgt := 64) h dX12_bestHysteresis_58 (by decide) (fun c_58 => ?_) (fun c_58 => ?_)
        ·
          refine ca_aload_nr h dX12_bestHysteresis_64 rfl ?_
          refine gs_X12_9 h hs ⟨rfl, rfl⟩ dX12_bestHysteresis_65 ?_
          refine ca_iconst h dX12_bestHysteresis_68 ik_0 ?_
          refine ca_aload_nr h dX12_bestHysteresis_69 rfl ?_
          refine gs_X12_16 h hs ⟨rfl, rfl⟩ dX12_bestHysteresis_70 ?_
          refine ca_iconst h dX12_bestHysteresis_73 ik_0 ?_
          refine ca_sv h hG ms_X12_266 (c_X12_copy (kd := 23) (kd2 := 25) (a := 0) (b := 0) (hs.1 16 23 0 ⟨rfl, rfl⟩) (hs.1 16 25 0 ⟨rfl, rfl⟩) rfl rfl (by omega) (by omega) (by decide) (by decide) (Or.inl (by decide))) rfl rfl rfl rfl ⟨Nat.le_refl _, Nat.le_refl _⟩ rfl dX12_bestHysteresis_74 ?_
          refine ca_mem (μ'' := up μ 16 (na (nw (μ 16) 22 0 6 0) 25 0 (r_cpy (μ 16 25 0) 0 (fun j => μ 16 23 0 (1302 * 0 + j)) 1302))) (by rw [r_cm_16, r_th_16, r_th_r, nw_k (by decide), nw_k (by decide)]) ?_
          refine ca_iconst h dX12_bestHysteresis_77 ik_m1 ?_
          refine ca_istore h dX12_bestHysteresis_78 rfl ?_
          refine ca_iconst h dX12_bestHysteresis_80 ik_0 ?_
          refine ca_istore h dX12_bestHysteresis_81 rfl ?_
          refine ca_iconst h dX12_bestHysteresis_83 ik_0 ?_
          refine ca_istore h dX12_bestHysteresis_84 rfl ?_
          refine ca_iconst h dX12_bestHysteresis_86 ik_0 ?_
          refine ca_istore h dX12_bestHysteresis_87 rfl ?_
          have loop_89 : ∀ (jj v : Nat), v + jj = 31 → ∀ (x5 : Int32) (e5 : x5 = (r_bh D H v).1) (x6 : Int32) (e6 : x6 = (r_bh D H v).2.1) (x7 : Int32) (e7 : x7 = (r_bh D H v).2.2) (x8 : Int32) (e8 : x8 = nI v) (P : ch_N) (hP6 : P 22 0 6 = 0) (hPJ : r_J n sn tx F u hst P) (hP23 : ∀ i, i < 1302 → P 23 0 i = μ 16 23 0 i) (hP25 : ∀ i, i < 1302 → P 25 0 i = μ 16 23 0 i) (mm : ch_M) (em : mm = up μ 16 P), ch_W X E 11 S mm 0 0 89 [(0, .ref (S.1 16 22 0)), (1, .int (nI a)), (2, .int (nI b)), (3, .int (nI T)), (4, .int (nI r)), (5, .int x5), (6, .int x6), (7, .int x7), (8, .int x8)] [] := by
            intro jj
            induction jj with
            | zero =>
              intro v hn x5 e5 x6 e6 x7 e7 x8 e8 P hP6 hPJ hP23 hP25 mm em
              have hn : v = 31 := by omega
              subst e5 e6 e7 e8 em
              refine ca_iload h dX12_bestHysteresis_89 rfl ?_
              refine ca_bipush h dX12_bestHysteresis_91 bk_30 ?_
              refine ca_icmp_gt (tgt := 193) h dX12_bestHysteresis_93 (by decide) (fun c_93 => ?_) (fun c_93 => ?_)
              ·
                refine ca_iload h dX12_bestHysteresis_193 rfl ?_
                refine ca_ireturn h hR rfl dX12_bestHysteresis_195 ?_
                exact ⟨by rw [show v = 31 from hn], rfl, P, rfl, hP6, hPJ⟩
              · exact absurd (show (30 : Int32) < nI v by rw [show v = 31 from hn]; decide) c_93
            | succ jj ih_89 =>
              intro v hn x5 e5 x6 e6 x7 e7 x8 e8 P hP6 hPJ hP23 hP25 mm em
              have hn1 : v < 31 := by omega
              subst e5 e6 e7 e8 em
              refine ca_iload h dX12_bestHysteresis_89 rfl ?_
              refine ca_bipush h dX12_bestHysteresis_91 bk_30 ?_
              refine ca_icmp_gt (tgt := 193) h dX12_bestHysteresis_93 (by decide) (fun c_93 => ?_) (fun c_93 => ?_)
              · exact absurd c_93 (nI_nlt (a := 30) (b := v) (by omega) (by decide))
              ·
                obtain ⟨nv, qv, hNv, eD, eH⟩ := hDH v hn1
                have hNP : r_N nv (up μ 16 P 16 23 0) := by rw [up_s]; exact r_N_row hNv hP23
                have hN1v : r_N (nw nv 2 (8 * a + b) 1 (nI v)) (up (up μ 16 P 16 23 0) (90 + 5 * r + 2) (nI v)) := r_N_rel (f := 1) hNP ha8 hb8 (by rw [up_s, hP23 1 (by decide)]; exact hr) (by rw [up_s, hP23 _ (by omega)]; exact ea) (by rw [up_s, hP23 _ (by omega)]; exact eb) (Or.inl rfl) (by rcases (r_nb hN ha8 hb8) with ⟨g1, g2⟩; exact fun z => hex (g1 ((r_nb hNv ha8 hb8).mpr z)))
                have e03 : nv 0 0 3 = n 0 0 3 := by rw [← hNv.1 3 (by decide), hN.1 3 (by decide)]
                refine ca_aload_nr h dX12_bestHysteresis_96 rfl ?_
                refine gs_X12_9 h hs ⟨rfl, rfl⟩ dX12_bestHysteresis_97 ?_
                refine ca_bipush h dX12_bestHysteresis_100 bk_90 ?_
                refine ca_iconst h dX12_bestHysteresis_102 ik_5 ?_
                refine ca_iload h dX12_bestHysteresis_103 rfl ?_
                refine ca_imul h dX12_bestHysteresis_105 ?_
                refine ca_iadd h dX12_bestHysteresis_106 ?_
                refine ca_iconst h dX12_bestHysteresis_107 ik_2 ?_
                refine ca_iadd h dX12_bestHysteresis_108 ?_
                refine ca_top (show _ = nI (90 + 5 * r + 2) by rw [show (2 : Int32) = nI 2 from rfl, ix_r]) ?_
                refine ca_iload h dX12_bestHysteresis_109 rfl ?_
                refine ca_iast h rfl (hs.1 _ _ _ ⟨rfl, rfl⟩) (vp_in_nI (by omega) (by decide)) dX12_bestHysteresis_111 ?_
                refine ca_mem (μ'' := r_wr (up μ 16 P) (up (up μ 16 P 16 23 0) (90 + 5 * r + 2) (nI v))) (by rw [ch_st_nw, nI_clamp (by omega), r_put0]) ?_
                refine ca_aload_nr h dX12_bestHysteresis_112 rfl ?_
                refine ca_iload_n h dX12_bestHysteresis_113 rfl ?_
                refine ca_vXv h hG ml_X12_257 (c_X12_pass hs (n := nw nv 2 (8 * a + b) 1 (nI v)) (q := qv) (by rw [r_wr_at]; exact hN1v) (by omega) (by rw [nw_k (by decide), e03]; exact hc0) hcT) (ci := 12) rfl rfl rfl (hs.1 _ _ _ ⟨rfl, rfl⟩) rfl rfl rfl rfl ⟨Nat.le_refl _, Nat.le_refl _⟩ rfl dX12_bestHysteresis_114 ?_
                intro μ9 hμ9
                obtain ⟨a2, b2, x2, w2, rfl, hNw⟩ := hμ9
                rw [r_wq_wrr]
                refine ca_aload_nr h dX12_bestHysteresis_117 rfl ?_
                refine gs_X12_9 h hs ⟨rfl, rfl⟩ dX12_bestHysteresis_118 ?_
                refine ca_bipush h dX12_bestHysteresis_121 bk_13 ?_
                refine ca_iald h rfl (hs.1 _ _ _ ⟨rfl, rfl⟩) (vp_in_nI (n := 13) (N := 1302) (by decide) (by decide)) dX12_bestHysteresis_123 ?_
                refine ca_top (show _ = D v by rw [r_wq_at, eD]; exact hNw.2.1.1 3 (by decide)) ?_
                refine ca_istore h dX12_bestHysteresis_124 rfl ?_
                refine ca_aload_nr h dX12_bestHysteresis_126 rfl ?_
                refine gs_X12_9 h hs ⟨rfl, rfl⟩ dX12_bestHysteresis_127 ?_
                refine ca_bipush h dX12_bestHysteresis_130 bk_10 ?_
                refine ca_iald h rfl (hs.1 _ _ _ ⟨rfl, rfl⟩) (vp_in_nI (n := 10) (N := 1302) (by decide) (by decide)) dX12_bestHysteresis_132 ?_
                refine ca_top (show _ = H v by rw [r_wq_at, eH]; exact hNw.2.1.1 0 (by decide)) ?_
                refine ca_istore h dX12_bestHysteresis_133 rfl ?_
                refine ca_aload_nr h dX12_bestHysteresis_135 rfl ?_
                refine gs_X12_16 h hs ⟨rfl, rfl⟩ dX12_bestHysteresis_136 ?_
                refine ca_iconst h dX12_bestHysteresis_139 ik_0 ?_
                refine ca_aload_nr h dX12_bestHysteresis_140 rfl ?_
                refine gs_X12_9 h hs ⟨rfl, rfl⟩ dX12_bestHysteresis_141 ?_
                refine ca_iconst h dX12_bestHysteresis_144 ik_0 ?_
                refine ca_sv h hG ms_X12_266 (c_X12_copy (kd := 25) (kd2 := 23) (a := 0) (b := 0) (hs.1 16 25 0 ⟨rfl, rfl⟩) (hs.1 16 23 0 ⟨rfl, rfl⟩) rfl rfl (by omega) (by omega) (by decide) (by decide) (Or.inl (by decide))) rfl rfl rfl rfl ⟨Nat.le_refl _, Nat.le_refl _⟩ rfl dX12_bestHysteresis_145 ?_
                obtain ⟨P2, gP, g6, gJ, g23, g25⟩ := r_rst (μ := μ) (a := a2) (b := b2) (x := x2) (w2 := w2) hPJ (r_N_row hN hP25)
                refine ca_mem gP ?_
                refine ca_iload h dX12_bestHysteresis_148 rfl ?_
                refine ca_iconst h dX12_bestHysteresis_150 ik_m1 ?_
                refine ca_icmp_eq (tgt := 175) h dX12_bestHysteresis_151 (by decide) (fun c_151 => ?_) (fun c_151 => ?_)
                ·
                  refine ca_iload h dX12_bestHysteresis_175 rfl ?_
                  refine ca_istore h dX12_bestHysteresis_177 rfl ?_
                  refine ca_iload h dX12_bestHysteresis_179 rfl ?_
                  refine ca_istore h dX12_bestHysteresis_181 rfl ?_
                  refine ca_iload h dX12_bestHysteresis_183 rfl ?_
                  refine ca_istore h dX12_bestHysteresis_185 rfl ?_
                  refine ca_iinc h dX12_bestHysteresis_187 rfl ik_1 rfl ?_
                  refine ca_goto (tgt := 89) h dX12_bestHysteresis_190 (by decide) ?_
                  refine ca_pick [6, 7, 8, 9, 10, 3, 2, 1, 0] rfl ?_
                  have e9 : r_bh D H (v + 1) = (nI v, D v, H v) := by rw [r_bh_s, if_pos (Or.inl c_151)]
                  exact ih_89 (v + 1) (by omega) _ (by rw [e9]) _ (by rw [e9]) _ (by rw [e9]) _ (nI_1 v) P2 (by rw [g6]; exact hP6) gJ (fun i hi => by rw [g23 i hi]; exact hP25 i hi) (fun i hi => by rw [g25]; exact hP25 i hi) _ rfl
                ·
                  refine ca_iload h dX12_bestHysteresis_154 rfl ?_
                  refine ca_iload h dX12_bestHysteresis_156 rfl ?_
                  refine ca_icmp_lt (tgt := 175) h dX12_bestHysteresis_158 (by decide) (fun c_158 => ?_) (fun c_158 => ?_)
                  ·
                    refine ca_iload h dX12_bestHysteresis_175 rfl ?_
                    refine ca_istore h dX12_bestHysteresis_177 rfl ?_
                    refine ca_iload h dX12_bestHysteresis_179 rfl ?_
                    refine ca_istore h dX12_bestHysteresis_181 rfl ?_
                    refine ca_iload h dX12_bestHysteresis_183 rfl ?_
                    refine ca_istore h dX12_bestHysteresis_185 rfl ?_
                    refine ca_iinc h dX12_bestHysteresis_187 rfl ik_1 rfl ?_
                    refine ca_goto (tgt := 89) h dX12_bestHysteresis_190 (by decide) ?_
                    refine ca_pick [6, 7, 8, 9, 10, 3, 2, 1, 0] rfl ?_
                    have e9 : r_bh D H (v + 1) = (nI v, D v, H v) := by rw [r_bh_s, if_pos (Or.inr (Or.inl c_158))]
                    exact ih_89 (v + 1) (by omega) _ (by rw [e9]) _ (by rw [e9]) _ (by rw [e9]) _ (nI_1 v) P2 (by rw [g6]; exact hP6) gJ (fun i hi => by rw [g23 i hi]; exact hP25 i hi) (fun i hi => by rw [g25]; exact hP25 i hi) _ rfl
                  ·
                    refine ca_iload h dX12_bestHysteresis_161 rfl ?_
                    refine ca_iload h dX12_bestHysteresis_163 rfl ?_
                    refine ca_icmp_ne (tgt := 187) h dX12_bestHysteresis_165 (by decide) (fun c_165 => ?_) (fun c_165 => ?_)
                    ·
                      refine ca_iinc h dX12_bestHysteresis_187 rfl ik_1 rfl ?_
                      refine ca_goto (tgt := 89) h dX12_bestHysteresis_190 (by decide) ?_
                      refine ca_pick [3, 4, 5, 6, 7, 8, 9, 10, 0] rfl ?_
                      have e9 : r_bh D H (v + 1) = r_bh D H v := by
                        rw [r_bh_s, if_neg]
                        rintro (z | z | z)
                        · exact c_151 z
                        · exact c_158 z
                        · exact (fun z => c_165 z.1) z
                      exact ih_89 (v + 1) (by omega) _ (by rw [e9]) _ (by rw [e9]) _ (by rw [e9]) _ (nI_1 v) P2 (by rw [g6]; exact hP6) gJ (fun i hi => by rw [g23 i hi]; exact hP25 i hi) (fun i hi => by rw [g25]; exact hP25 i hi) _ rfl
                    ·
                      refine ca_iload h dX12_bestHysteresis_168 rfl ?_
                      refine ca_iload h dX12_bestHysteresis_170 rfl ?_
                      refine ca_icmp_ge (tgt := 187) h dX12_bestHysteresis_172 (by decide) (fun c_172 => ?_) (fun c_172 => ?_)
                      ·
                        refine ca_iinc h dX12_bestHysteresis_187 rfl ik_1 rfl ?_
                        refine ca_goto (tgt := 89) h dX12_bestHysteresis_190 (by decide) ?_
                        refine ca_pick [3, 4, 5, 6, 7, 8, 9, 10, 0] rfl ?_
                        have e9 : r_bh D H (v + 1) = r_bh D H v := by
                          rw [r_bh_s, if_neg]
                          rintro (z | z | z)
                          · exact c_151 z
                          · exact c_158 z
                          · exact (fun z => c_172 z.2) z
                        exact ih_89 (v + 1) (by omega) _ (by rw [e9]) _ (by rw [e9]) _ (by rw [e9]) _ (nI_1 v) P2 (by rw [g6]; exact hP6) gJ (fun i hi => by rw [g23 i hi]; exact hP25 i hi) (fun i hi => by rw [g25]; exact hP25 i hi) _ rfl
                      ·
                        refine ca_iload h dX12_bestHysteresis_175 rfl ?_
                        refine ca_istore h dX12_bestHysteresis_177 rfl ?_
                        refine ca_iload h dX12_bestHysteresis_179 rfl ?_
                        refine ca_istore h dX12_bestHysteresis_181 rfl ?_
                        refine ca_iload h dX12_bestHysteresis_183 rfl ?_
                        refine ca_istore h dX12_bestHysteresis_185 rfl ?_
                        refine ca_iinc h dX12_bestHysteresis_187 rfl ik_1 rfl ?_
                        refine ca_goto (tgt := 89) h dX12_bestHysteresis_190 (by decide) ?_
                        refine ca_pick [6, 7, 8, 9, 10, 3, 2, 1, 0] rfl ?_
                        have e9 : r_bh D H (v + 1) = (nI v, D v, H v) := by rw [r_bh_s, if_pos (Or.inr (Or.inr ⟨c_165, c_172⟩))]
                        exact ih_89 (v + 1) (by omega) _ (by rw [e9]) _ (by rw [e9]) _ (by rw [e9]) _ (nI_1 v) P2 (by rw [g6]; exact hP6) gJ (fun i hi => by rw [g23 i hi]; exact hP25 i hi) (fun i hi => by rw [g25]; exact hP25 i hi) _ rfl
          refine ca_pick [5, 6, 7, 8, 4, 3, 2, 1, 0] rfl ?_
          exact loop_89 31 0 (Nat.zero_add _) _ rfl _ rfl _ rfl _ rfl _ (by rw [na_k (by decide), nw_at, if_pos ⟨rfl, rfl, rfl⟩]) (r_J_mk hJ (by rw [na_k (by decide), nw_k (by decide)]; exact hN) (by rw [na_k (by decide), nw_at, if_neg (by omega)]) (by rw [na_k (by decide), nw_at, if_neg (by omega)]) (by rw [na_k (by decide), nw_at, if_neg (by omega)]) (by rw [na_k (by decide), nw_at, if_neg (by omega)]) (by rw [na_k (by decide), nw_k (by decide)]) (by rw [na_k (by decide), nw_k (by decide)]) (by rw [na_k (by decide), nw_k (by decide)])) (fun i hi => by rw [na_k (by decide), nw_k (by decide)]) (fun i hi => by rw [na_fn, r_cpy_r0 _ _ hi, Nat.mul_zero, Nat.zero_add]) _ rfl
        · exact absurd c_58 (nI_nm1 (by omega))
      · exact absurd (show ((¬ nI T < 0 ∧ ¬ 30 < nI T) ∧ ¬ 100000 < n 0 0 3 + nI T) from ⟨⟨nI_pos (by omega), nI_nlt (a := 30) (b := T) hTk (by decide)⟩, by rw [hc0, nI_add]; exact r_gt (by omega)⟩) (of_decide_eq_false (bI_0.mp c_34))
    · exact absurd ((r_isC hN _).mpr ⟨b, hb, rfl⟩) (by have z := of_decide_eq_false (bI_0.mp c_18); rw [r_th_0] at z; exact z)
set_option maxHeartbeats 100000 in
theorem c_X12_bestHysteresisM {l : Launch} {E : ch_E} {S : ch_S} {μ : ch_M} (hs : ch_Std E S) {n : ch_N} (hN : r_N n (μ 16 23 0)) {a b : Nat} (ha : a < k_cc n) (hb : b < k_cc n) {T c0 : Nat} (hTk : T ≤ 30) (hc0 : n 0 0 3 = nI c0) (hcT : c0 + T ≤ 100000) (hex : n 2 (8 * a + b) 0 = 0) : ch_C E l yX12_bestHysteresis cX12_bestHysteresis 11 (some FieldType.int) 9 0 0 S μ [.ref (S.1 16 22 0), .int (nI a), .int (nI b), .int (nI T)] (ch_F (some (.int (-2))) S (r_th μ 0)) := by
  refine ch_enter rfl rfl ?_
  intro X hl0 h hG hR hnm
  have h : ch_H X E RX12 cX12_bestHysteresis 11 := h
  have ha8 := r_c8 hN ha
  have hb8 := r_c8 hN hb
  show ch_W X E 11 S μ 0 0 0 [(0, .ref (S.1 16 22 0)), (1, .int (nI a)), (2, .int (nI b)), (3, .int (nI T))] []
  refine ca_aload_nr h dX12_bestHysteresis_0 rfl ?_
  refine ca_iconst h dX12_bestHysteresis_1 ik_0 ?_
  refine pi_X12_70 h (hs.1 _ _ _ ⟨rfl, rfl⟩) dX12_bestHysteresis_2 ?_
  refine ca_mem (μ'' := r_th μ 0) rfl ?_
  refine ca_aload_nr h dX12_bestHysteresis_5 rfl ?_
  refine ca_iload_n h dX12_bestHysteresis_6 rfl ?_
  refine ca_vi h hG ml_X12_104 (c_X12_isCell hs) (ci := 12) rfl rfl rfl (hs.1 _ _ _ ⟨rfl, rfl⟩) rfl rfl rfl rfl ⟨Nat.le_refl _, Nat.le_refl _⟩ rfl dX12_bestHysteresis_7 ?_
  refine ca_if_eq (tgt := 21) h dX12_bestHysteresis_10 (by decide) (fun c_10 => ?_) (fun c_10 => ?_)
  · exact absurd ((r_isC hN _).mpr ⟨a, ha, rfl⟩) (by have z := of_decide_eq_false (bI_0.mp c_10); rw [r_th_0] at z; exact z)
  ·
    refine ca_aload_nr h dX12_bestHysteresis_13 rfl ?_
    refine ca_iload_n h dX12_bestHysteresis_14 rfl ?_
    refine ca_vi h hG ml_X12_104 (c_X12_isCell hs) (ci := 12) rfl rfl rfl (hs.1 _ _ _ ⟨rfl, rfl⟩) rfl rfl rfl rfl ⟨Nat.le_refl _, Nat.le_refl _⟩ rfl dX12_bestHysteresis_15 ?_
    refine ca_if_ne (tgt := 27) h dX12_bestHysteresis_18 (by decide) (fun c_18 => ?_) (fun c_18 => ?_)
    ·
      refine ca_aload_nr h dX12_bestHysteresis_27 rfl ?_
      refine ca_iload_n h dX12_bestHysteresis_28 rfl ?_
      refine ca_bipush h dX12_bestHysteresis_29 bk_30 ?_
      refine ca_vi h hG ml_X12_254 (c_X12_canRun hs (n := n) (by rw [r_th_23]; exact hN)) (ci := 12) rfl rfl rfl (hs.1 _ _ _ ⟨rfl, rfl⟩) rfl rfl rfl rfl ⟨Nat.le_refl _, Nat.le_refl _⟩ rfl dX12_bestHysteresis_31 ?_
      refine ca_if_ne (tgt := 43) h dX12_bestHysteresis_34 (by decide) (fun c_34 => ?_) (fun c_34 => ?_)
      ·
        refine ca_aload_nr h dX12_bestHysteresis_43 rfl ?_
        refine ca_aload_nr h dX12_bestHysteresis_44 rfl ?_
        refine gs_X12_9 h hs ⟨rfl, rfl⟩ dX12_bestHysteresis_45 ?_
        refine ca_iload_n h dX12_bestHysteresis_48 rfl ?_
        refine ca_iload_n h dX12_bestHysteresis_49 rfl ?_
        refine ca_vi h hG ml_X12_81 (c_X12_relationOf hs (by rw [r_th_23]; exact r_24 hN)) (ci := 12) rfl rfl rfl (hs.1 _ _ _ ⟨rfl, rfl⟩) rfl rfl rfl rfl ⟨Nat.le_refl _, Nat.le_refl _⟩ rfl dX12_bestHysteresis_50 ?_
        rw [r_th_23, (r_nb hN ha8 hb8).mpr hex]
        refine ca_istore h dX12_bestHysteresis_53 rfl ?_
        refine ca_iload h dX12_bestHysteresis_55 rfl ?_
        refine ca_iconst h dX12_bestHysteresis_57 ik_m1 ?_
        refine ca_icmp_ne (tgt := 64) h dX12_bestHysteresis_58 (by decide) (fun c_58 => ?_) (fun c_58 => ?_)
        ·
          exact absurd rfl c_58
        ·
          refine ca_bipush h dX12_bestHysteresis_61 bk_m2 ?_
          refine ca_ireturn h hR rfl dX12_bestHysteresis_63 ?_
          exact ⟨rfl, rfl, rfl⟩
      · exact absurd (show ((¬ nI T < 0 ∧ ¬ 30 < nI T) ∧ ¬ 100000 < n 0 0 3 + nI T) from ⟨⟨nI_pos (by omega), nI_nlt (a := 30) (b := T) hTk (by decide)⟩, by rw [hc0, nI_add]; exact r_gt (by omega)⟩) (of_decide_eq_false (bI_0.mp c_34))
    · exact absurd ((r_isC hN _).mpr ⟨b, hb, rfl⟩) (by have z := of_decide_eq_false (bI_0.mp c_18); rw [r_th_0] at z; exact z)
set_option maxHeartbeats 100000 in
theorem c_X12_bestHysteresisR {l : Launch} {E : ch_E} {S : ch_S} {μ : ch_M} (hs : ch_Std E S) {n : ch_N} (hN : r_N n (μ 16 23 0)) {a b : Nat} (ha : a < k_cc n) (hb : b < k_cc n) {x : Int32} (hx : ¬ ((¬ x < 0 ∧ ¬ 30 < x) ∧ ¬ 100000 < n 0 0 3 + x)) : ch_C E l yX12_bestHysteresis cX12_bestHysteresis 11 (some FieldType.int) 9 0 0 S μ [.ref (S.1 16 22 0), .int (nI a), .int (nI b), .int x] (ch_F (some (.int (0))) S (r_th μ 2)) := by
  refine ch_enter rfl rfl ?_
  intro X hl0 h hG hR hnm
  have h : ch_H X E RX12 cX12_bestHysteresis 11 := h
  show ch_W X E 11 S μ 0 0 0 [(0, .ref (S.1 16 22 0)), (1, .int (nI a)), (2, .int (nI b)), (3, .int x)] []
  refine ca_aload_nr h dX12_bestHysteresis_0 rfl ?_
  refine ca_iconst h dX12_bestHysteresis_1 ik_0 ?_
  refine pi_X12_70 h (hs.1 _ _ _ ⟨rfl, rfl⟩) dX12_bestHysteresis_2 ?_
  refine ca_mem (μ'' := r_th μ 0) rfl ?_
  refine ca_aload_nr h dX12_bestHysteresis_5 rfl ?_
  refine ca_iload_n h dX12_bestHysteresis_6 rfl ?_
  refine ca_vi h hG ml_X12_104 (c_X12_isCell hs) (ci := 12) rfl rfl rfl (hs.1 _ _ _ ⟨rfl, rfl⟩) rfl rfl rfl rfl ⟨Nat.le_refl _, Nat.le_refl _⟩ rfl dX12_bestHysteresis_7 ?_
  refine ca_if_eq (tgt := 21) h dX12_bestHysteresis_10 (by decide) (fun c_10 => ?_) (fun c_10 => ?_)
  · exact absurd ((r_isC hN _).mpr ⟨a, ha, rfl⟩) (by have z := of_decide_eq_false (bI_0.mp c_10); rw [r_th_0] at z; exact z)
  ·
    refine ca_aload_nr h dX12_bestHysteresis_13 rfl ?_
    refine ca_iload_n h dX12_bestHysteresis_14 rfl ?_
    refine ca_vi h hG ml_X12_104 (c_X12_isCell hs) (ci := 12) rfl rfl rfl (hs.1 _ _ _ ⟨rfl, rfl⟩) rfl rfl rfl rfl ⟨Nat.le_refl _, Nat.le_refl _⟩ rfl dX12_bestHysteresis_15 ?_
    refine ca_if_ne (tgt := 27) h dX12_bestHysteresis_18 (by decide) (fun c_18 => ?_) (fun c_18 => ?_)
    ·
      refine ca_aload_nr h dX12_bestHysteresis_27 rfl ?_
      refine ca_iload_n h dX12_bestHysteresis_28 rfl ?_
      refine ca_bipush h dX12_bestHysteresis_29 bk_30 ?_
      refine ca_vi h hG ml_X12_254 (c_X12_canRun hs (n := n) (by rw [r_th_23]; exact hN)) (ci := 12) rfl rfl rfl (hs.1 _ _ _ ⟨rfl, rfl⟩) rfl rfl rfl rfl ⟨Nat.le_refl _, Nat.le_refl _⟩ rfl dX12_bestHysteresis_31 ?_
      refine ca_if_ne (tgt := 43) h dX12_bestHysteresis_34 (by decide) (fun c_34 => ?_) (fun c_34 => ?_)
      ·
        exact absurd (of_decide_eq_true (bI_n0.mp c_34)) hx
      ·
        refine ca_aload_nr h dX12_bestHysteresis_37 rfl ?_
        refine ca_iconst h dX12_bestHysteresis_38 ik_2 ?_
        refine ca_vi h hG ml_X12_108 (c_X12_raise hs) (ci := 12) rfl rfl rfl (hs.1 _ _ _ ⟨rfl, rfl⟩) rfl rfl rfl rfl ⟨Nat.le_refl _, Nat.le_refl _⟩ rfl dX12_bestHysteresis_39 ?_
        refine ca_ireturn h hR rfl dX12_bestHysteresis_42 ?_
        exact ⟨rfl, rfl, by rw [r_th_th]⟩
    · exact absurd ((r_isC hN _).mpr ⟨b, hb, rfl⟩) (by have z := of_decide_eq_false (bI_0.mp c_18); rw [r_th_0] at z; exact z)
set_option maxHeartbeats 100000 in
theorem c_X12_bestHysteresisN {l : Launch} {E : ch_E} {S : ch_S} {μ : ch_M} (hs : ch_Std E S) {n : ch_N} (hN : r_N n (μ 16 23 0)) {x y : Int32} (hx : ¬ ((∃ c, c < k_cc n ∧ x = nI c) ∧ ∃ c, c < k_cc n ∧ y = nI c)) {z : Int32} : ch_C E l yX12_bestHysteresis cX12_bestHysteresis 11 (some FieldType.int) 9 0 0 S μ [.ref (S.1 16 22 0), .int x, .int y, .int z] (ch_F (some (.int (0))) S (r_th μ 1)) := by
  refine ch_enter rfl rfl ?_
  intro X hl0 h hG hR hnm
  have h : ch_H X E RX12 cX12_bestHysteresis 11 := h
  show ch_W X E 11 S μ 0 0 0 [(0, .ref (S.1 16 22 0)), (1, .int x), (2, .int y), (3, .int z)] []
  refine ca_aload_nr h dX12_bestHysteresis_0 rfl ?_
  refine ca_iconst h dX12_bestHysteresis_1 ik_0 ?_
  refine pi_X12_70 h (hs.1 _ _ _ ⟨rfl, rfl⟩) dX12_bestHysteresis_2 ?_
  refine ca_mem (μ'' := r_th μ 0) rfl ?_
  refine ca_aload_nr h dX12_bestHysteresis_5 rfl ?_
  refine ca_iload_n h dX12_bestHysteresis_6 rfl ?_
  refine ca_vi h hG ml_X12_104 (c_X12_isCell hs) (ci := 12) rfl rfl rfl (hs.1 _ _ _ ⟨rfl, rfl⟩) rfl rfl rfl rfl ⟨Nat.le_refl _, Nat.le_refl _⟩ rfl dX12_bestHysteresis_7 ?_
  refine ca_if_eq (tgt := 21) h dX12_bestHysteresis_10 (by decide) (fun c_10 => ?_) (fun c_10 => ?_)
  ·
    refine ca_aload_nr h dX12_bestHysteresis_21 rfl ?_
    refine ca_iconst h dX12_bestHysteresis_22 ik_1 ?_
    refine ca_vi h hG ml_X12_108 (c_X12_raise hs) (ci := 12) rfl rfl rfl (hs.1 _ _ _ ⟨rfl, rfl⟩) rfl rfl rfl rfl ⟨Nat.le_refl _, Nat.le_refl _⟩ rfl dX12_bestHysteresis_23 ?_
    refine ca_ireturn h hR rfl dX12_bestHysteresis_26 ?_
    exact ⟨rfl, rfl, by rw [r_th_th]⟩
  ·
    refine ca_aload_nr h dX12_bestHysteresis_13 rfl ?_
    refine ca_iload_n h dX12_bestHysteresis_14 rfl ?_
    refine ca_vi h hG ml_X12_104 (c_X12_isCell hs) (ci := 12) rfl rfl rfl (hs.1 _ _ _ ⟨rfl, rfl⟩) rfl rfl rfl rfl ⟨Nat.le_refl _, Nat.le_refl _⟩ rfl dX12_bestHysteresis_15 ?_
    refine ca_if_ne (tgt := 27) h dX12_bestHysteresis_18 (by decide) (fun c_18 => ?_) (fun c_18 => ?_)
    ·
      exact absurd ⟨(r_isC hN _).mp (by have z := of_decide_eq_true (bI_n0.mp c_10); rw [r_th_0] at z; exact z), (r_isC hN _).mp (by have z := of_decide_eq_true (bI_n0.mp c_18); rw [r_th_0] at z; exact z)⟩ hx
    ·
      refine ca_aload_nr h dX12_bestHysteresis_21 rfl ?_
      refine ca_iconst h dX12_bestHysteresis_22 ik_1 ?_
      refine ca_vi h hG ml_X12_108 (c_X12_raise hs) (ci := 12) rfl rfl rfl (hs.1 _ _ _ ⟨rfl, rfl⟩) rfl rfl rfl rfl ⟨Nat.le_refl _, Nat.le_refl _⟩ rfl dX12_bestHysteresis_23 ?_
      refine ca_ireturn h hR rfl dX12_bestHysteresis_26 ?_
      exact ⟨rfl, rfl, by rw [r_th_th]⟩
