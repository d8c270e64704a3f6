/-! a String constant by a wide index -/
theorem ca_ldcws {X : ch_X} {E : ch_E} {own : String} {cc : ByteArray} {nL : Nat} {S : ch_S} {μ : ch_M} {kc ks pc : Nat} {L : List (Nat × Value)} {st : List Value} (h : ch_H X E own cc nL) {i a : Nat} {tx : String} (hw : (own, i, tx, a) ∈ ch_str) (hd : decode cc pc = .ok (.ldc_w i, 3)) (k : ch_W X E nL S μ kc ks (pc + 3) L (.ref (E.2.2.2.1 a) :: st)) : ch_W X E nL S μ kc ks pc L st := by
  intro H locs ls hI hS hl T hT Y
  obtain ⟨t, a1, b1⟩ := k H locs ls hI hS hl T hT Y
  have hZ := h.2.2.2.2.1.2.2.1 _ hw
  obtain ⟨k0, cf, i0, a', hk, hcf, hcp, -, hr, hev'⟩ := Cond.stringRef_spec h.2.2.1 hZ.1
  cases hZ.2.symm.trans hev'
  obtain ⟨k', hk', he⟩ := Y.warmed.alike.2.2 _ _ hk
  have hr' : k'.resolved[i]? = some (some (.string (E.2.2.2.1 a))) := by
    rcases Y.warmed.entry hk hk' i with h9 | ⟨h9, -⟩
    · rw [h9]; exact hr
    · rw [hr] at h9; cases h9
  have hx := h.1
  have hb := h.2.1
  refine ⟨t, ?_, b1⟩
  jvm_step Y.here [hx, hb, hd, ldc_w.wp_string (s := T) (f := F0 (x_m X) pc ls st) Y.here.top hk' (by rw [he]; exact hcf) hcp hr']
  exact a1
/-! THE REFERENCE'S READING: a cell, the settings -/
def r_LP (pr : ch_P2) (S : ch_S) (μ : ch_M) : Option Value → ch_S → ch_M → Prop := ch_FX none S (fun μ' => ∃ p', μ' = up μ 16 p' ∧ r_X1 pr.1 p' ∧ r_tg (μ 16) p' ∧ (pr.1 12 0 1 = 0 → r_D pr.2 (p' 24 0)))
theorem t_adv_f {q : ch_N} (h : ¬ q 12 0 1 = 0) : t_adv q = q := by unfold t_adv; rw [if_pos h]
theorem l_f_1 (c f : Nat) (lo hi : Int32) (p : ch_P2) : (l_f c f lo hi p).1 = (t_take p.1 lo hi).2 := rfl
theorem l_f_2 (c f : Nat) (lo hi : Int32) (p : ch_P2) : (l_f c f lo hi p).2 = nw p.2 1 c f (t_take p.1 lo hi).1 := rfl
theorem l_h_1 (j : Nat) (lo hi : Int32) (p : ch_P2) : (l_h j lo hi p).1 = (t_take p.1 lo hi).2 := rfl
theorem l_h_2 (j : Nat) (lo hi : Int32) (p : ch_P2) : (l_h j lo hi p).2 = nw p.2 0 0 j (t_take p.1 lo hi).1 := rfl
theorem up_ap (f : Nat → Int32) (a : Nat) (v : Int32) (j : Nat) : up f a v j = if j = a then v else f j := rfl
theorem r_dn_0 {d : Nat → Int32} {q' : ch_N} {pl : Nat} {v : Int32} (h : q' 12 0 1 = 0) : r_dn d q' pl v = up d pl v := by unfold r_dn; rw [if_pos h]
set_option maxHeartbeats 400000 in
theorem c_X12_readCell {l : Launch} {E : ch_E} {S : ch_S} {μ : ch_M} (hs : ch_Std E S) {q : ch_N} (hX : r_X1 q (μ 16)) {n : ch_N} (hD : r_D n (μ 16 24 0)) (h0 : q 12 0 1 = 0) : ch_C E l yX12_readCell cX12_readCell 2 none 7 0 0 S μ [.ref (S.1 16 22 0)] (r_LP (l_cell (q, n)) S μ) := by
  refine ch_enter rfl rfl ?_
  intro X hl0 h hG hR hnm
  have h : ch_H X E RX12 cX12_readCell 2 := h
  show ch_W X E 2 S μ 0 0 0 [(0, .ref (S.1 16 22 0))] []
  refine ca_aload_nr h dX12_readCell_0 rfl ?_
  refine ca_aload_nr h dX12_readCell_1 rfl ?_
  refine gs_X12_13 h hs ⟨rfl, rfl⟩ dX12_readCell_2 ?_
  refine ca_iconst h dX12_readCell_5 ik_0 ?_
  refine ca_iald h rfl (hs.1 _ _ _ ⟨rfl, rfl⟩) (vp_in_nI (n := 0) (N := 1302) (by decide) (by decide)) dX12_readCell_6 ?_
  refine ca_top (show _ = nI (k_cc n) by rw [show Int32.toNatClampNeg 0 = 0 from rfl, hD.1.1 0 (by decide), ← nI_cn hD.1.2.1.2.1.2.2.2.1]; rfl) ?_
  refine ca_bipush h dX12_readCell_7 bk_8 ?_
  refine ca_icmp_ge (tgt := 16) h dX12_readCell_9 (by decide) (fun c_9 => ?_) (fun c_9 => ?_)
  ·
    refine ca_iconst h dX12_readCell_16 ik_0 ?_
    refine ca_iconst h dX12_readCell_17 ik_3 ?_
    refine ca_vXv h hG ml_X12_328 (c_X12_check hs hX) (ci := 12) rfl rfl rfl (hs.1 _ _ _ ⟨rfl, rfl⟩) rfl rfl rfl rfl ⟨Nat.le_refl _, Nat.le_refl _⟩ rfl dX12_readCell_18 ?_
    intro μ9 hμ9
    obtain ⟨pa, rfl, hXa, hfa⟩ := hμ9
    refine ca_aload_nr h dX12_readCell_21 rfl ?_
    refine ca_vXv h hG ml_X12_332 (c_X12_advance hs (by rw [up_s]; exact hXa)) (ci := 12) rfl rfl rfl (hs.1 _ _ _ ⟨rfl, rfl⟩) rfl rfl rfl rfl ⟨Nat.le_refl _, Nat.le_refl _⟩ rfl dX12_readCell_22 ?_
    intro μ9 hμ9
    obtain ⟨p0, rfl, hX0, hf0⟩ := hμ9
    rw [up_up]
    rw [up_s] at hf0
    have hg0 := r_tg_tf (r_tf_tr hfa hf0)
    have hd0 : p0 24 0 = μ 16 24 0 := by rw [hf0.1 24 (by decide), hfa.1 24 (by decide)]
    have eq0 : t_adv (r_chk q 0 3) = t_fail q 3 := by rw [show r_chk q 0 3 = t_fail q 3 from rfl, t_adv_f (t_fail_ne (by decide))]
    refine ca_bipush h dX12_readCell_25 bk_18 ?_
    refine ca_bipush h dX12_readCell_27 bk_9 ?_
    refine ca_aload_nr h dX12_readCell_29 rfl ?_
    refine gs_X12_13 h hs ⟨rfl, rfl⟩ dX12_readCell_30 ?_
    refine ca_iconst h dX12_readCell_33 ik_0 ?_
    refine ca_iald h rfl (hs.1 _ _ _ ⟨rfl, rfl⟩) (vp_in_nI (n := 0) (N := 1302) (by decide) (by decide)) dX12_readCell_34 ?_
    refine ca_top (show _ = nI (k_cc n) by rw [show Int32.toNatClampNeg 0 = 0 from rfl, up_s, hd0, hD.1.1 0 (by decide), ← nI_cn hD.1.2.1.2.1.2.2.2.1]; rfl) ?_
    refine ca_imul h dX12_readCell_35 ?_
    refine ca_iadd h dX12_readCell_36 ?_
    refine ca_top (show _ = nI (18 + 9 * k_cc n) by rw [show (18 : Int32) = nI 18 from rfl, show (9 : Int32) = nI 9 from rfl, pk_mul, nI_add]) ?_
    refine ca_istore_n h dX12_readCell_37 rfl ?_
    refine ca_aload_nr h dX12_readCell_38 rfl ?_
    refine gi_X12_301 h (hs.1 _ _ _ ⟨rfl, rfl⟩) dX12_readCell_39 ?_
    refine ca_top (show _ = (t_adv (r_chk q 0 3)) 12 0 1 by rw [up_s]; exact hX0.1.2.2.1) ?_
    refine ca_if_eq (tgt := 46) h dX12_readCell_42 (by decide) (fun c_42 => ?_) (fun c_42 => ?_)
    · exact absurd c_42 (by rw [eq0]; exact t_fail_ne (by decide))
    ·
      refine ca_vreturn h hR dX12_readCell_45 ?_
      have e000 : n 0 0 0 = nI (k_cc n) := (nI_cn hD.1.2.1.2.1.2.2.2.1).symm
      have el : l_cell (q, n) = (t_fail q 3, n) := by
        unfold l_cell
        rw [if_pos (by show ¬ n 0 0 0 < 8; rw [e000]; exact c_9)]
      exact ⟨rfl, rfl, p0, rfl, by rw [el]; rw [eq0] at hX0; exact hX0, hg0, fun z => absurd (by rw [el] at z; exact z) (t_fail_ne (by decide))⟩
  ·
    refine ca_iconst h dX12_readCell_12 ik_1 ?_
    refine ca_goto (tgt := 17) h dX12_readCell_13 (by decide) ?_
    refine ca_iconst h dX12_readCell_17 ik_3 ?_
    refine ca_vXv h hG ml_X12_328 (c_X12_check hs hX) (ci := 12) rfl rfl rfl (hs.1 _ _ _ ⟨rfl, rfl⟩) rfl rfl rfl rfl ⟨Nat.le_refl _, Nat.le_refl _⟩ rfl dX12_readCell_18 ?_
    intro μ9 hμ9
    obtain ⟨pa, rfl, hXa, hfa⟩ := hμ9
    refine ca_aload_nr h dX12_readCell_21 rfl ?_
    refine ca_vXv h hG ml_X12_332 (c_X12_advance hs (by rw [up_s]; exact hXa)) (ci := 12) rfl rfl rfl (hs.1 _ _ _ ⟨rfl, rfl⟩) rfl rfl rfl rfl ⟨Nat.le_refl _, Nat.le_refl _⟩ rfl dX12_readCell_22 ?_
    intro μ9 hμ9
    obtain ⟨p0, rfl, hX0, hf0⟩ := hμ9
    rw [up_up]
    rw [up_s] at hf0
    have hg0 := r_tg_tf (r_tf_tr hfa hf0)
    have hd0 : p0 24 0 = μ 16 24 0 := by rw [hf0.1 24 (by decide), hfa.1 24 (by decide)]
    have eq0 : t_adv (r_chk q 1 3) = t_adv q := by rfl
    rw [eq0] at hX0
    have hc8 : k_cc n < 8 := (nI_ltI (b := 8) (by have := hD.1.2.2.2.2.2.2.1; omega) (by decide)).mp c_9
    refine ca_bipush h dX12_readCell_25 bk_18 ?_
    refine ca_bipush h dX12_readCell_27 bk_9 ?_
    refine ca_aload_nr h dX12_readCell_29 rfl ?_
    refine gs_X12_13 h hs ⟨rfl, rfl⟩ dX12_readCell_30 ?_
    refine ca_iconst h dX12_readCell_33 ik_0 ?_
    refine ca_iald h rfl (hs.1 _ _ _ ⟨rfl, rfl⟩) (vp_in_nI (n := 0) (N := 1302) (by decide) (by decide)) dX12_readCell_34 ?_
    refine ca_top (show _ = nI (k_cc n) by rw [show Int32.toNatClampNeg 0 = 0 from rfl, up_s, hd0, hD.1.1 0 (by decide), ← nI_cn hD.1.2.1.2.1.2.2.2.1]; rfl) ?_
    refine ca_imul h dX12_readCell_35 ?_
    refine ca_iadd h dX12_readCell_36 ?_
    refine ca_top (show _ = nI (18 + 9 * k_cc n) by rw [show (18 : Int32) = nI 18 from rfl, show (9 : Int32) = nI 9 from rfl, pk_mul, nI_add]) ?_
    refine ca_istore_n h dX12_readCell_37 rfl ?_
    refine ca_aload_nr h dX12_readCell_38 rfl ?_
    refine gi_X12_301 h (hs.1 _ _ _ ⟨rfl, rfl⟩) dX12_readCell_39 ?_
    refine ca_top (show _ = (t_adv q) 12 0 1 by rw [up_s]; exact hX0.1.2.2.1) ?_
    refine ca_if_eq (tgt := 46) h dX12_readCell_42 (by decide) (fun c_42 => ?_) (fun c_42 => ?_)
    ·
      refine ca_aload_nr h dX12_readCell_46 rfl ?_
      refine ca_iload_n h dX12_readCell_47 rfl ?_
      refine ca_iconst h dX12_readCell_48 ik_0 ?_
      refine ca_iadd h dX12_readCell_49 ?_
      refine ca_top (show _ = nI (18 + 9 * k_cc n + 0) by rw [show (0 : Int32) = nI 0 from rfl, nI_add]) ?_
      refine ca_iconst h dX12_readCell_50 ik_0 ?_
      refine ca_sipush h dX12_readCell_51 sk_999 ?_
      refine ca_vXv h hG ml_X12_345 (c_X12_putNumber hs (q := (t_adv q)) (by rw [up_s]; exact hX0) (pl := 18 + 9 * k_cc n + 0) (by omega) (by decide)) (ci := 12) rfl rfl rfl (hs.1 _ _ _ ⟨rfl, rfl⟩) rfl rfl rfl rfl ⟨Nat.le_refl _, Nat.le_refl _⟩ rfl dX12_readCell_54 ?_
      intro μ9 hμ9
      obtain ⟨p1, rfl, hX1, hg1, hd1⟩ := hμ9
      rw [up_up]
      rw [up_s] at hg1 hd1
      obtain ⟨T1, hT1⟩ : ∃ z, z = t_take (t_adv q) 0 999 := ⟨_, rfl⟩
      rw [← hT1] at hX1 hd1
      refine ca_aload_nr h dX12_readCell_57 rfl ?_
      refine ca_iload_n h dX12_readCell_58 rfl ?_
      refine ca_iconst h dX12_readCell_59 ik_1 ?_
      refine ca_iadd h dX12_readCell_60 ?_
      refine ca_top (show _ = nI (18 + 9 * k_cc n + 1) by rw [show (1 : Int32) = nI 1 from rfl, nI_add]) ?_
      refine ca_iconst h dX12_readCell_61 ik_0 ?_
      refine ca_sipush h dX12_readCell_62 sk_999 ?_
      refine ca_vXv h hG ml_X12_345 (c_X12_putNumber hs (q := T1.2) (by rw [up_s]; exact hX1) (pl := 18 + 9 * k_cc n + 1) (by omega) (by decide)) (ci := 12) rfl rfl rfl (hs.1 _ _ _ ⟨rfl, rfl⟩) rfl rfl rfl rfl ⟨Nat.le_refl _, Nat.le_refl _⟩ rfl dX12_readCell_65 ?_
      intro μ9 hμ9
      obtain ⟨p2, rfl, hX2, hg2, hd2⟩ := hμ9
      rw [up_up]
      rw [up_s] at hg2 hd2
      obtain ⟨T2, hT2⟩ : ∃ z, z = t_take T1.2 0 999 := ⟨_, rfl⟩
      rw [← hT2] at hX2 hd2
      refine ca_aload_nr h dX12_readCell_68 rfl ?_
      refine ca_iload_n h dX12_readCell_69 rfl ?_
      refine ca_iconst h dX12_readCell_70 ik_2 ?_
      refine ca_iadd h dX12_readCell_71 ?_
      refine ca_top (show _ = nI (18 + 9 * k_cc n + 2) by rw [show (2 : Int32) = nI 2 from rfl, nI_add]) ?_
      refine ca_iconst h dX12_readCell_72 ik_1 ?_
      refine ca_bipush h dX12_readCell_73 bk_99 ?_
      refine ca_vXv h hG ml_X12_345 (c_X12_putNumber hs (q := T2.2) (by rw [up_s]; exact hX2) (pl := 18 + 9 * k_cc n + 2) (by omega) (by decide)) (ci := 12) rfl rfl rfl (hs.1 _ _ _ ⟨rfl, rfl⟩) rfl rfl rfl rfl ⟨Nat.le_refl _, Nat.le_refl _⟩ rfl dX12_readCell_75 ?_
      intro μ9 hμ9
      obtain ⟨p3, rfl, hX3, hg3, hd3⟩ := hμ9
      rw [up_up]
      rw [up_s] at hg3 hd3
      obtain ⟨T3, hT3⟩ : ∃ z, z = t_take T2.2 1 99 := ⟨_, rfl⟩
      rw [← hT3] at hX3 hd3
      refine ca_aload_nr h dX12_readCell_78 rfl ?_
      refine ca_iload_n h dX12_readCell_79 rfl ?_
      refine ca_iconst h dX12_readCell_80 ik_3 ?_
      refine ca_iadd h dX12_readCell_81 ?_
      refine ca_top (show _ = nI (18 + 9 * k_cc n + 3) by rw [show (3 : Int32) = nI 3 from rfl, nI_add]) ?_
      refine ca_iconst h dX12_readCell_82 ik_1 ?_
      refine ca_bipush h dX12_readCell_83 bk_50 ?_
      refine ca_vXv h hG ml_X12_345 (c_X12_putNumber hs (q := T3.2) (by rw [up_s]; exact hX3) (pl := 18 + 9 * k_cc n + 3) (by omega) (by decide)) (ci := 12) rfl rfl rfl (hs.1 _ _ _ ⟨rfl, rfl⟩) rfl rfl rfl rfl ⟨Nat.le_refl _, Nat.le_refl _⟩ rfl dX12_readCell_85 ?_
      intro μ9 hμ9
      obtain ⟨p4, rfl, hX4, hg4, hd4⟩ := hμ9
      rw [up_up]
      rw [up_s] at hg4 hd4
      obtain ⟨T4, hT4⟩ : ∃ z, z = t_take T3.2 1 50 := ⟨_, rfl⟩
      rw [← hT4] at hX4 hd4
      refine ca_aload_nr h dX12_readCell_88 rfl ?_
      refine ca_iload_n h dX12_readCell_89 rfl ?_
      refine ca_iconst h dX12_readCell_90 ik_4 ?_
      refine ca_iadd h dX12_readCell_91 ?_
      refine ca_top (show _ = nI (18 + 9 * k_cc n + 4) by rw [show (4 : Int32) = nI 4 from rfl, nI_add]) ?_
      refine ca_iconst h dX12_readCell_92 ik_1 ?_
      refine ca_bipush h dX12_readCell_93 bk_8 ?_
      refine ca_vXv h hG ml_X12_345 (c_X12_putNumber hs (q := T4.2) (by rw [up_s]; exact hX4) (pl := 18 + 9 * k_cc n + 4) (by omega) (by decide)) (ci := 12) rfl rfl rfl (hs.1 _ _ _ ⟨rfl, rfl⟩) rfl rfl rfl rfl ⟨Nat.le_refl _, Nat.le_refl _⟩ rfl dX12_readCell_95 ?_
      intro μ9 hμ9
      obtain ⟨p5, rfl, hX5, hg5, hd5⟩ := hμ9
      rw [up_up]
      rw [up_s] at hg5 hd5
      obtain ⟨T5, hT5⟩ : ∃ z, z = t_take T4.2 1 8 := ⟨_, rfl⟩
      rw [← hT5] at hX5 hd5
      refine ca_aload_nr h dX12_readCell_98 rfl ?_
      refine ca_iload_n h dX12_readCell_99 rfl ?_
      refine ca_iconst h dX12_readCell_100 ik_5 ?_
      refine ca_iadd h dX12_readCell_101 ?_
      refine ca_top (show _ = nI (18 + 9 * k_cc n + 5) by rw [show (5 : Int32) = nI 5 from rfl, nI_add]) ?_
      refine ca_iconst h dX12_readCell_102 ik_0 ?_
      refine ca_bipush h dX12_readCell_103 bk_6 ?_
      refine ca_vXv h hG ml_X12_345 (c_X12_putNumber hs (q := T5.2) (by rw [up_s]; exact hX5) (pl := 18 + 9 * k_cc n + 5) (by omega) (by decide)) (ci := 12) rfl rfl rfl (hs.1 _ _ _ ⟨rfl, rfl⟩) rfl rfl rfl rfl ⟨Nat.le_refl _, Nat.le_refl _⟩ rfl dX12_readCell_105 ?_
      intro μ9 hμ9
      obtain ⟨p6, rfl, hX6, hg6, hd6⟩ := hμ9
      rw [up_up]
      rw [up_s] at hg6 hd6
      obtain ⟨T6, hT6⟩ : ∃ z, z = t_take T5.2 0 6 := ⟨_, rfl⟩
      rw [← hT6] at hX6 hd6
      refine ca_aload_nr h dX12_readCell_108 rfl ?_
      refine ca_iload_n h dX12_readCell_109 rfl ?_
      refine ca_bipush h dX12_readCell_110 bk_6 ?_
      refine ca_iadd h dX12_readCell_112 ?_
      refine ca_top (show _ = nI (18 + 9 * k_cc n + 6) by rw [show (6 : Int32) = nI 6 from rfl, nI_add]) ?_
      refine ca_iconst h dX12_readCell_113 ik_0 ?_
      refine ca_bipush h dX12_readCell_114 bk_99 ?_
      refine ca_vXv h hG ml_X12_345 (c_X12_putNumber hs (q := T6.2) (by rw [up_s]; exact hX6) (pl := 18 + 9 * k_cc n + 6) (by omega) (by decide)) (ci := 12) rfl rfl rfl (hs.1 _ _ _ ⟨rfl, rfl⟩) rfl rfl rfl rfl ⟨Nat.le_refl _, Nat.le_refl _⟩ rfl dX12_readCell_116 ?_
      intro μ9 hμ9
      obtain ⟨p7, rfl, hX7, hg7, hd7⟩ := hμ9
      rw [up_up]
      rw [up_s] at hg7 hd7
      obtain ⟨T7, hT7⟩ : ∃ z, z = t_take T6.2 0 99 := ⟨_, rfl⟩
      rw [← hT7] at hX7 hd7
      refine ca_aload_nr h dX12_readCell_119 rfl ?_
      refine ca_iload_n h dX12_readCell_120 rfl ?_
      refine ca_bipush h dX12_readCell_121 bk_7 ?_
      refine ca_iadd h dX12_readCell_123 ?_
      refine ca_top (show _ = nI (18 + 9 * k_cc n + 7) by rw [show (7 : Int32) = nI 7 from rfl, nI_add]) ?_
      refine ca_iconst h dX12_readCell_124 ik_0 ?_
      refine ca_bipush h dX12_readCell_125 bk_99 ?_
      refine ca_vXv h hG ml_X12_345 (c_X12_putNumber hs (q := T7.2) (by rw [up_s]; exact hX7) (pl := 18 + 9 * k_cc n + 7) (by omega) (by decide)) (ci := 12) rfl rfl rfl (hs.1 _ _ _ ⟨rfl, rfl⟩) rfl rfl rfl rfl ⟨Nat.le_refl _, Nat.le_refl _⟩ rfl dX12_readCell_127 ?_
      intro μ9 hμ9
      obtain ⟨p8, rfl, hX8, hg8, hd8⟩ := hμ9
      rw [up_up]
      rw [up_s] at hg8 hd8
      obtain ⟨T8, hT8⟩ : ∃ z, z = t_take T7.2 0 99 := ⟨_, rfl⟩
      rw [← hT8] at hX8 hd8
      refine ca_aload_nr h dX12_readCell_130 rfl ?_
      refine gs_X12_13 h hs ⟨rfl, rfl⟩ dX12_readCell_131 ?_
      refine ca_iconst h dX12_readCell_134 ik_0 ?_
      refine ca_dup2 h dX12_readCell_135 rfl rfl ?_
      refine ca_iald h rfl (hs.1 _ _ _ ⟨rfl, rfl⟩) (vp_in_nI (n := 0) (N := 1302) (by decide) (by decide)) dX12_readCell_136 ?_
      refine ca_iconst h dX12_readCell_137 ik_1 ?_
      refine ca_iadd h dX12_readCell_138 ?_
      refine ca_iast h rfl (hs.1 _ _ _ ⟨rfl, rfl⟩) (vp_in_nI (n := 0) (N := 1302) (by decide) (by decide)) dX12_readCell_139 ?_
      refine ca_vreturn h hR dX12_readCell_140 ?_
      obtain ⟨M, hM⟩ : ∃ z, z = (nw (nw (nw (nw (nw (nw (nw (nw n 1 (k_cc n) 0 T1.1) 1 (k_cc n) 1 T2.1) 1 (k_cc n) 2 T3.1) 1 (k_cc n) 3 T4.1) 1 (k_cc n) 4 T5.1) 1 (k_cc n) 5 T6.1) 1 (k_cc n) 6 T7.1) 1 (k_cc n) 7 T8.1) := ⟨_, rfl⟩
      have e000 : n 0 0 0 = nI (k_cc n) := (nI_cn hD.1.2.1.2.1.2.2.2.1).symm
      have e1 : (l_cellA (k_cc n) (t_adv q, n)).1 = T8.2 := by unfold l_cellA; simp only [l_f_1]; rw [← hT1, ← hT2, ← hT3, ← hT4, ← hT5, ← hT6, ← hT7, ← hT8]
      have e2 : (l_cellA (k_cc n) (t_adv q, n)).2 = M := by rw [hM]; unfold l_cellA; simp only [l_f_1, l_f_2]; rw [← hT1, ← hT2, ← hT3, ← hT4, ← hT5, ← hT6, ← hT7, ← hT8]
      have eM0 : M 0 = n 0 := by rw [hM]; simp only [nw_k (show (0 : Nat) ≠ 1 by decide)]
      have el : l_cell (q, n) = (T8.2, nw (nw M 1 (k_cc n) 8 0) 0 0 0 (nI (k_cc n + 1))) := by
        unfold l_cell
        rw [if_neg (by show ¬ ¬ n 0 0 0 < 8; rw [e000]; exact fun z => z c_9)]
        show ((l_cellA (k_ix 8 8 (n 0 0 0)) (t_adv q, n)).1, nw (nw (l_cellA (k_ix 8 8 (n 0 0 0)) (t_adv q, n)).2 1 (k_ix 8 8 (n 0 0 0)) 8 0) 0 0 0 ((l_cellA (k_ix 8 8 (n 0 0 0)) (t_adv q, n)).2 0 0 0 + 1)) = _
        rw [e000, k_cel hc8, e1, e2, eM0, e000, nI_1]
      refine ⟨rfl, rfl, _, by rw [ch_st_nw, up_s, up_up], by rw [el]; exact r_X1_24 hX8, r_tg_tr (r_tg_tr (r_tg_tr (r_tg_tr (r_tg_tr (r_tg_tr (r_tg_tr (r_tg_tr (r_tg_tr hg0 hg1) hg2) hg3) hg4) hg5) hg6) hg7) hg8) r_tg_24, fun z8 => ?_⟩
      rw [el] at z8 ⊢
      have z8 : T8.2 12 0 1 = 0 := z8
      show r_D (nw (nw M 1 (k_cc n) 8 0) 0 0 0 (nI (k_cc n + 1))) _
      obtain ⟨z7, l8, u8⟩ := t_take_in (q := T7.2) (p := p7) (lo := 0) (hi := 99) hX7 (by rw [← hT8]; exact z8)
      rw [← hT8] at l8 u8
      obtain ⟨z6, l7, u7⟩ := t_take_in (q := T6.2) (p := p6) (lo := 0) (hi := 99) hX6 (by rw [← hT7]; exact z7)
      rw [← hT7] at l7 u7
      obtain ⟨z5, l6, u6⟩ := t_take_in (q := T5.2) (p := p5) (lo := 0) (hi := 6) hX5 (by rw [← hT6]; exact z6)
      rw [← hT6] at l6 u6
      obtain ⟨z4, l5, u5⟩ := t_take_in (q := T4.2) (p := p4) (lo := 1) (hi := 8) hX4 (by rw [← hT5]; exact z5)
      rw [← hT5] at l5 u5
      obtain ⟨z3, l4, u4⟩ := t_take_in (q := T3.2) (p := p3) (lo := 1) (hi := 50) hX3 (by rw [← hT4]; exact z4)
      rw [← hT4] at l4 u4
      obtain ⟨z2, l3, u3⟩ := t_take_in (q := T2.2) (p := p2) (lo := 1) (hi := 99) hX2 (by rw [← hT3]; exact z3)
      rw [← hT3] at l3 u3
      obtain ⟨z1, l2, u2⟩ := t_take_in (q := T1.2) (p := p1) (lo := 0) (hi := 999) hX1 (by rw [← hT2]; exact z2)
      rw [← hT2] at l2 u2
      obtain ⟨z0, l1, u1⟩ := t_take_in (q := (t_adv q)) (p := p0) (lo := 0) (hi := 999) hX0 (by rw [← hT1]; exact z1)
      rw [← hT1] at l1 u1
      rw [r_dn_0 z1] at hd1
      rw [r_dn_0 z2] at hd2
      rw [r_dn_0 z3] at hd3
      rw [r_dn_0 z4] at hd4
      rw [r_dn_0 z5] at hd5
      rw [r_dn_0 z6] at hd6
      rw [r_dn_0 z7] at hd7
      rw [r_dn_0 z8] at hd8
      have e80 : p8 24 0 (Int32.toNatClampNeg 0) = nI (k_cc n) := by
        rw [show Int32.toNatClampNeg 0 = 0 from rfl, hd8, hd7, hd6, hd5, hd4, hd3, hd2, hd1, hd0]
        simp only [up_ap]
        rw [if_neg (by omega), if_neg (by omega), if_neg (by omega), if_neg (by omega), if_neg (by omega), if_neg (by omega), if_neg (by omega), if_neg (by omega), hD.1.1 0 (by decide), e000]
      refine r_D_cell (c := k_cc n) (V := (fun f => if f = 0 then T1.1 else if f = 1 then T2.1 else if f = 2 then T3.1 else if f = 3 then T4.1 else if f = 4 then T5.1 else if f = 5 then T6.1 else if f = 6 then T7.1 else T8.1)) hD rfl hc8 ⟨l1, u1⟩ ⟨l2, u2⟩ ⟨fun z => l3 (Int32.lt_trans z (by decide)), u3⟩ ⟨fun z => l4 (Int32.lt_trans z (by decide)), u4⟩ (fun j => ?_) (fun i f hf => ?_) (fun kd h1 h2 => ?_) (fun j => ?_)
      · rw [nw_at]
        by_cases g : j = 0
        · rw [if_pos ⟨rfl, rfl, g⟩, if_pos g]
        · rw [if_neg (fun z => g z.2.2), if_neg g, nw_k (by decide), eM0]
      · rw [nw_k (by decide), hM]
        by_cases g : i = k_cc n
        · subst g
          rcases (show f = 0 ∨ f = 1 ∨ f = 2 ∨ f = 3 ∨ f = 4 ∨ f = 5 ∨ f = 6 ∨ f = 7 ∨ f = 8 by omega) with rfl | rfl | rfl | rfl | rfl | rfl | rfl | rfl | rfl <;> simp [nw_at]
        · simp [nw_at, g]
      · rw [nw_k h1, nw_k h2, hM]
        simp only [nw_k h2]
      · show (nw p8 24 0 (Int32.toNatClampNeg 0) (up μ 16 p8 16 24 0 (Int32.toNatClampNeg 0) + 1)) 24 0 j = _
        rw [nw_24, up_s, e80, nI_1, hd8, hd7, hd6, hd5, hd4, hd3, hd2, hd1, hd0, show Int32.toNatClampNeg 0 = 0 from rfl]
        simp only [up_ap]
        by_cases g0 : j = 0
        · rw [if_pos g0, if_pos g0]
        · rw [if_neg g0, if_neg g0]
          by_cases g : 18 + 9 * k_cc n ≤ j ∧ j < 18 + 9 * k_cc n + 8
          · rw [if_pos g]
            rcases (show j = 18 + 9 * k_cc n + 0 ∨ j = 18 + 9 * k_cc n + 1 ∨ j = 18 + 9 * k_cc n + 2 ∨ j = 18 + 9 * k_cc n + 3 ∨ j = 18 + 9 * k_cc n + 4 ∨ j = 18 + 9 * k_cc n + 5 ∨ j = 18 + 9 * k_cc n + 6 ∨ j = 18 + 9 * k_cc n + 7 by omega) with e | e | e | e | e | e | e | e <;> rw [e, Nat.add_sub_cancel_left] <;> simp
          · rw [if_neg g, if_neg (by omega), if_neg (by omega), if_neg (by omega), if_neg (by omega), if_neg (by omega), if_neg (by omega), if_neg (by omega), if_neg (by omega)]
    · exact absurd (by rw [t_adv_1]; exact h0) c_42
set_option maxHeartbeats 400000 in
theorem c_X12_readSettings {l : Launch} {E : ch_E} {S : ch_S} {μ : ch_M} (hs : ch_Std E S) {q : ch_N} (hX : r_X1 q (μ 16)) {n : ch_N} (hD : r_D n (μ 16 24 0)) (h0 : q 12 0 1 = 0) : ch_C E l yX12_readSettings cX12_readSettings 1 none 7 0 0 S μ [.ref (S.1 16 22 0)] (r_LP (if t_is q 3 = true then l_set (q, n) else (t_fail q 1, n)) S μ) := by
  refine ch_enter rfl rfl ?_
  intro X hl0 h hG hR hnm
  have h : ch_H X E RX12 cX12_readSettings 1 := h
  show ch_W X E 1 S μ 0 0 0 [(0, .ref (S.1 16 22 0))] []
  refine ca_aload_nr h dX12_readSettings_0 rfl ?_
  refine ca_ldcws h (i := 351) (List.mem_of_getElem? (i := 35) rfl) dX12_readSettings_1 ?_
  refine ca_vXv h hG ml_X12_353 (c_X12_expectWord hs hX (a := 3) (by decide) (by decide) (by decide)) (ci := 12) rfl rfl rfl (hs.1 _ _ _ ⟨rfl, rfl⟩) rfl rfl rfl rfl ⟨Nat.le_refl _, Nat.le_refl _⟩ rfl dX12_readSettings_4 ?_
  intro μ9 hμ9
  obtain ⟨p0, rfl, hX0, hf0⟩ := hμ9
  have hd0 : p0 24 0 = μ 16 24 0 := by rw [hf0.1 24 (by decide)]
  refine ca_aload_nr h dX12_readSettings_7 rfl ?_
  refine ca_iconst h dX12_readSettings_8 ik_4 ?_
  refine ca_iconst h dX12_readSettings_9 ik_1 ?_
  refine ca_bipush h dX12_readSettings_10 bk_8 ?_
  refine ca_vXv h hG ml_X12_345 (c_X12_putNumber hs (q := (t_exp q 3)) (by rw [up_s]; exact hX0) (pl := 4) (by decide) (by decide)) (ci := 12) rfl rfl rfl (hs.1 _ _ _ ⟨rfl, rfl⟩) rfl rfl rfl rfl ⟨Nat.le_refl _, Nat.le_refl _⟩ rfl dX12_readSettings_12 ?_
  intro μ9 hμ9
  obtain ⟨p1, rfl, hX1, hg1, hd1⟩ := hμ9
  rw [up_up]
  rw [up_s] at hg1 hd1
  obtain ⟨T1, hT1⟩ : ∃ z, z = t_take (t_exp q 3) 1 8 := ⟨_, rfl⟩
  rw [← hT1] at hX1 hd1
  refine ca_aload_nr h dX12_readSettings_15 rfl ?_
  refine ca_iconst h dX12_readSettings_16 ik_5 ?_
  refine ca_iconst h dX12_readSettings_17 ik_1 ?_
  refine ca_aload_nr h dX12_readSettings_18 rfl ?_
  refine gs_X12_13 h hs ⟨rfl, rfl⟩ dX12_readSettings_19 ?_
  refine ca_iconst h dX12_readSettings_22 ik_4 ?_
  refine ca_iald h rfl (hs.1 _ _ _ ⟨rfl, rfl⟩) (vp_in_nI (n := 4) (N := 1302) (by decide) (by decide)) dX12_readSettings_23 ?_
  have hw8 : p1 24 0 4 < 100000 := by
    rw [hd1]
    unfold r_dn
    have hWn : n 0 0 4 < 100000 := by
      obtain ⟨w3, w4, w5, -⟩ := hD.1.2.2.2.2.2.2.2
      rw [← nI_cn w3]
      exact nI_lt (b := 100000) (by omega) (by decide)
    split
    · rename_i z1
      rw [up_s]
      obtain ⟨-, l1, u1⟩ := t_take_in (q := t_exp q 3) (p := p0) (lo := 1) (hi := 8) hX0 (by rw [← hT1]; exact z1)
      rw [← hT1] at u1
      exact Int32.lt_of_le_of_lt (Int32.not_lt.mp u1) (by decide)
    · rw [hd0, hD.1.1 4 (by decide)]
      exact hWn
  refine ca_vXv h hG ml_X12_345 (c_X12_putNumber hs (q := T1.2) (by rw [up_s]; exact hX1) (pl := 5) (by decide) hw8) (ci := 12) rfl rfl rfl (hs.1 _ _ _ ⟨rfl, rfl⟩) rfl rfl rfl rfl ⟨Nat.le_refl _, Nat.le_refl _⟩ rfl dX12_readSettings_24 ?_
  intro μ9 hμ9
  obtain ⟨p2, rfl, hX2, hg2, hd2⟩ := hμ9
  rw [up_up]
  rw [up_s] at hg2 hd2
  obtain ⟨T2, hT2⟩ : ∃ z, z = t_take T1.2 1 (p1 24 0 4) := ⟨_, rfl⟩
  rw [← hT2] at hX2 hd2
  refine ca_aload_nr h dX12_readSettings_27 rfl ?_
  refine ca_bipush h dX12_readSettings_28 bk_6 ?_
  refine ca_iconst h dX12_readSettings_30 ik_0 ?_
  refine ca_bipush h dX12_readSettings_31 bk_50 ?_
  refine ca_vXv h hG ml_X12_345 (c_X12_putNumber hs (q := T2.2) (by rw [up_s]; exact hX2) (pl := 6) (by decide) (by decide)) (ci := 12) rfl rfl rfl (hs.1 _ _ _ ⟨rfl, rfl⟩) rfl rfl rfl rfl ⟨Nat.le_refl _, Nat.le_refl _⟩ rfl dX12_readSettings_33 ?_
  intro μ9 hμ9
  obtain ⟨p3, rfl, hX3, hg3, hd3⟩ := hμ9
  rw [up_up]
  rw [up_s] at hg3 hd3
  obtain ⟨T3, hT3⟩ : ∃ z, z = t_take T2.2 0 50 := ⟨_, rfl⟩
  rw [← hT3] at hX3 hd3
  refine ca_aload_nr h dX12_readSettings_36 rfl ?_
  refine ca_bipush h dX12_readSettings_37 bk_7 ?_
  refine ca_iconst h dX12_readSettings_39 ik_1 ?_
  refine ca_bipush h dX12_readSettings_40 bk_30 ?_
  refine ca_vXv h hG ml_X12_345 (c_X12_putNumber hs (q := T3.2) (by rw [up_s]; exact hX3) (pl := 7) (by decide) (by decide)) (ci := 12) rfl rfl rfl (hs.1 _ _ _ ⟨rfl, rfl⟩) rfl rfl rfl rfl ⟨Nat.le_refl _, Nat.le_refl _⟩ rfl dX12_readSettings_42 ?_
  intro μ9 hμ9
  obtain ⟨p4, rfl, hX4, hg4, hd4⟩ := hμ9
  rw [up_up]
  rw [up_s] at hg4 hd4
  obtain ⟨T4, hT4⟩ : ∃ z, z = t_take T3.2 1 30 := ⟨_, rfl⟩
  rw [← hT4] at hX4 hd4
  refine ca_aload_nr h dX12_readSettings_45 rfl ?_
  refine ca_bipush h dX12_readSettings_46 bk_8 ?_
  refine ca_iconst h dX12_readSettings_48 ik_0 ?_
  refine ca_bipush h dX12_readSettings_49 bk_99 ?_
  refine ca_vXv h hG ml_X12_345 (c_X12_putNumber hs (q := T4.2) (by rw [up_s]; exact hX4) (pl := 8) (by decide) (by decide)) (ci := 12) rfl rfl rfl (hs.1 _ _ _ ⟨rfl, rfl⟩) rfl rfl rfl rfl ⟨Nat.le_refl _, Nat.le_refl _⟩ rfl dX12_readSettings_51 ?_
  intro μ9 hμ9
  obtain ⟨p5, rfl, hX5, hg5, hd5⟩ := hμ9
  rw [up_up]
  rw [up_s] at hg5 hd5
  obtain ⟨T5, hT5⟩ : ∃ z, z = t_take T4.2 0 99 := ⟨_, rfl⟩
  rw [← hT5] at hX5 hd5
  refine ca_aload_nr h dX12_readSettings_54 rfl ?_
  refine ca_bipush h dX12_readSettings_55 bk_9 ?_
  refine ca_iconst h dX12_readSettings_57 ik_1 ?_
  refine ca_bipush h dX12_readSettings_58 bk_20 ?_
  refine ca_vXv h hG ml_X12_345 (c_X12_putNumber hs (q := T5.2) (by rw [up_s]; exact hX5) (pl := 9) (by decide) (by decide)) (ci := 12) rfl rfl rfl (hs.1 _ _ _ ⟨rfl, rfl⟩) rfl rfl rfl rfl ⟨Nat.le_refl _, Nat.le_refl _⟩ rfl dX12_readSettings_60 ?_
  intro μ9 hμ9
  obtain ⟨p6, rfl, hX6, hg6, hd6⟩ := hμ9
  rw [up_up]
  rw [up_s] at hg6 hd6
  obtain ⟨T6, hT6⟩ : ∃ z, z = t_take T5.2 1 20 := ⟨_, rfl⟩
  rw [← hT6] at hX6 hd6
  refine ca_vreturn h hR dX12_readSettings_63 ?_
  have e0 : t_is q 3 = true → t_exp q 3 = t_adv q := fun z => by unfold t_exp; rw [if_pos z]
  obtain ⟨r, hr⟩ : ∃ z, z = (if t_is q 3 = true then l_set (q, n) else (t_fail q 1, n)) := ⟨_, rfl⟩
  rw [← hr]
  have e1 : r.1 = T6.2 := by
    rw [hr]
    by_cases g : t_is q 3 = true
    · rw [if_pos g]
      by_cases gz : T1.2 12 0 1 = 0
      · obtain ⟨z0, -⟩ := t_take_in (q := t_exp q 3) (p := p0) (lo := 1) (hi := 8) hX0 (by rw [← hT1]; exact gz)
        have ew : p1 24 0 4 = T1.1 := by rw [hd1, r_dn_0 gz, up_s]
        unfold l_set
        simp only [l_h_1, l_h_2]
        rw [nw_at, if_pos ⟨rfl, rfl, rfl⟩, ← e0 g, ← hT1, ← ew, ← hT2, ← hT3, ← hT4, ← hT5, ← hT6]
      · have q2 : T2.2 = T1.2 := by rw [hT2]; exact t_take_err gz
        have q3 : T3.2 = T1.2 := by rw [hT3, q2]; exact t_take_err gz
        have q4 : T4.2 = T1.2 := by rw [hT4, q3]; exact t_take_err gz
        have q5 : T5.2 = T1.2 := by rw [hT5, q4]; exact t_take_err gz
        have q6 : T6.2 = T1.2 := by rw [hT6, q5]; exact t_take_err gz
        rw [q6]
        have gz2 : ¬ (t_take (t_adv q) 1 8).2 12 0 1 = 0 := by rw [← e0 g, ← hT1]; exact gz
        unfold l_set
        simp only [l_h_1]
        rw [t_take_err gz2, t_take_err gz2, t_take_err gz2, t_take_err gz2, t_take_err gz2, hT1, e0 g]
    · rw [if_neg g]
      have hx : t_exp q 3 = t_fail q 1 := by unfold t_exp; rw [if_neg g]
      have hz : ¬ (t_exp q 3) 12 0 1 = 0 := by rw [hx]; exact t_fail_ne (by decide)
      have q1 : T1.2 = t_exp q 3 := by rw [hT1]; exact t_take_err hz
      have q2 : T2.2 = t_exp q 3 := by rw [hT2, q1]; exact t_take_err hz
      have q3 : T3.2 = t_exp q 3 := by rw [hT3, q2]; exact t_take_err hz
      have q4 : T4.2 = t_exp q 3 := by rw [hT4, q3]; exact t_take_err hz
      have q5 : T5.2 = t_exp q 3 := by rw [hT5, q4]; exact t_take_err hz
      have q6 : T6.2 = t_exp q 3 := by rw [hT6, q5]; exact t_take_err hz
      rw [q6, hx]
  refine ⟨rfl, rfl, p6, rfl, by rw [e1]; exact hX6, r_tg_tr (r_tg_tr (r_tg_tr (r_tg_tr (r_tg_tr (r_tg_tr (r_tg_tf hf0) hg1) hg2) hg3) hg4) hg5) hg6, fun z6 => ?_⟩
  rw [e1] at z6
  obtain ⟨z5, l6, u6⟩ := t_take_in (q := T5.2) (p := p5) (lo := 1) (hi := 20) hX5 (by rw [← hT6]; exact z6)
  rw [← hT6] at l6 u6
  obtain ⟨z4, l5, u5⟩ := t_take_in (q := T4.2) (p := p4) (lo := 0) (hi := 99) hX4 (by rw [← hT5]; exact z5)
  rw [← hT5] at l5 u5
  obtain ⟨z3, l4, u4⟩ := t_take_in (q := T3.2) (p := p3) (lo := 1) (hi := 30) hX3 (by rw [← hT4]; exact z4)
  rw [← hT4] at l4 u4
  obtain ⟨z2, l3, u3⟩ := t_take_in (q := T2.2) (p := p2) (lo := 0) (hi := 50) hX2 (by rw [← hT3]; exact z3)
  rw [← hT3] at l3 u3
  obtain ⟨z1, l2, u2⟩ := t_take_in (q := T1.2) (p := p1) (lo := 1) (hi := (p1 24 0 4)) hX1 (by rw [← hT2]; exact z2)
  rw [← hT2] at l2 u2
  obtain ⟨z0, l1, u1⟩ := t_take_in (q := (t_exp q 3)) (p := p0) (lo := 1) (hi := 8) hX0 (by rw [← hT1]; exact z1)
  rw [← hT1] at l1 u1
  rw [r_dn_0 z1] at hd1
  rw [r_dn_0 z2] at hd2
  rw [r_dn_0 z3] at hd3
  rw [r_dn_0 z4] at hd4
  rw [r_dn_0 z5] at hd5
  rw [r_dn_0 z6] at hd6
  have g : t_is q 3 = true := Classical.byContradiction fun g => by
    have hx : t_exp q 3 = t_fail q 1 := by unfold t_exp; rw [if_neg g]
    rw [hx] at z0
    exact absurd z0 (t_fail_ne (by decide))
  have ew : p1 24 0 4 = T1.1 := by rw [hd1, up_s]
  have e2 : r.2 = (nw (nw (nw (nw (nw (nw n 0 0 4 T1.1) 0 0 5 T2.1) 0 0 6 T3.1) 0 0 7 T4.1) 0 0 8 T5.1) 0 0 9 T6.1) := by
    rw [hr, if_pos g]
    unfold l_set
    simp only [l_h_1, l_h_2]
    have e44 : nw n 0 0 4 (t_take (t_adv q) 1 8).1 0 0 4 = p1 24 0 4 := by rw [nw_at, if_pos ⟨rfl, rfl, rfl⟩, ew, hT1, e0 g]
    rw [e44, ← e0 g, ← hT1, ← hT2, ← hT3, ← hT4, ← hT5, ← hT6]
  rw [e2, hd6, hd5, hd4, hd3, hd2, hd1, hd0]
  have nj : ∀ {j k : Nat}, j ≠ k → (j = k → False) := fun h z => h z
  refine r_D_hdr (r_D_hdr (r_D_hdr (r_D_hdr (r_D_hdr (r_D_hdr hD (j := 4) (by omega) (fun _ => ⟨l1, u1⟩) (fun z => by omega)) (j := 5) (by omega) (fun z => by omega) (fun _ => ?_)) (j := 6) (by omega) (fun z => by omega) (fun z => by omega)) (j := 7) (by omega) (fun z => by omega) (fun z => by omega)) (j := 8) (by omega) (fun z => by omega) (fun z => by omega)) (j := 9) (by omega) (fun z => by omega) (fun z => by omega)
  exact Int32.lt_of_lt_of_le (by decide) (Int32.not_lt.mp l2)
