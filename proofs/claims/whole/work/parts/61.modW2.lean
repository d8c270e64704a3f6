/-! THE REFERENCE'S READING: a relation's text -/
theorem l_r1_e (q n : ch_N) : l_r1 (q, n) = t_take (t_adv q) 0 (n 0 0 0 - 1) := rfl
theorem l_r2_e (q n : ch_N) : l_r2 (q, n) = t_sn (r_q1 (l_r1 (q, n)).2) 0 (n 0 0 0 - 1) := rfl
theorem l_r5_e (q n : ch_N) : l_r5 (q, n) = t_take (t_adv (l_r4 (q, n))) 0 30 := rfl
theorem r_chk_1 (q : ch_N) (c : Int32) : r_chk q 1 c = q := rfl
theorem r_chk_0 (q : ch_N) (c : Int32) : r_chk q 0 c = t_fail q c := rfl
theorem l_r3_e (q n : ch_N) : l_r3 (q, n) = if (l_r2 (q, n)).1 = (l_r1 (q, n)).1 then t_fail (l_r2 (q, n)).2 2 else (l_r2 (q, n)).2 := rfl
theorem l_r4_e (q n : ch_N) : l_r4 (q, n) = if n 2 (k_rx (l_r1 (q, n)).1 (l_r2 (q, n)).1) 0 = 0 then l_r3 (q, n) else t_fail (l_r3 (q, n)) 4 := rfl
theorem l_r3_err {q n B : ch_N} {T : Int32 × ch_N} (hT : T = l_r1 (q, n)) (hB : B = r_q1 T.2) (h : ¬ B 12 0 1 = 0) : l_r3 (q, n) = B := by
  have e : l_r2 (q, n) = (0, B) := by rw [l_r2_e, ← hT, ← hB]; unfold t_sn; rw [if_pos h]
  rw [l_r3_e, e]
  split
  · exact t_fail_f 2 h
  · rfl
theorem l_hi {n : ch_N} {b : Nat} (hc : k_cc n ≤ 8) (h0 : ¬ n 0 0 0 < 0) (hb : b < 2 ^ 31) : (¬ nI b < 0 ∧ ¬ n 0 0 0 - 1 < nI b) ↔ nI b < n 0 0 0 := by
  have e : n 0 0 0 = nI (k_cc n) := (nI_cn h0).symm
  rw [e]
  generalize k_cc n = c at *
  cases c with
  | zero => exact ⟨fun z => absurd (show nI 0 - 1 < nI b from Int32.lt_of_lt_of_le (show nI 0 - 1 < 0 by decide) (nI_pos' hb)) z.2, fun z => absurd z (nI_pos hb)⟩
  | succ c =>
    rw [nI_pred]
    exact ⟨fun z => nI_lt (Nat.lt_succ_of_le (Nat.le_of_not_lt fun y => z.2 (nI_lt y hb))) (by omega), fun z => ⟨nI_pos hb, nI_nlt (by have := (nI_ltI hb (by omega)).mp z; omega) (by omega)⟩⟩
theorem l_r3_ok {q n p B : ch_N} {T : Int32 × ch_N} (hT : T = l_r1 (q, n)) (hB : B = r_q1 T.2) (hX : r_X1 B p) (hc : k_cc n ≤ 8) (hc0 : ¬ n 0 0 0 < 0) (h : B 12 0 1 = 0) {b : Nat} (hb : b < 2 ^ 31) (eb : r_num B (t_n B - t_s B) = nI b) :
    (nI b < n 0 0 0 → (l_r2 (q, n)).1 = nI b ∧ l_r3 (q, n) = if nI b = T.1 then t_fail B 2 else B) ∧ (¬ nI b < n 0 0 0 → l_r3 (q, n) = t_fail B 2) := by
  have hk2 : B 12 0 7 = 2 := by
    obtain ⟨g1, g2⟩ := r_q1_k (q := T.2) (by rw [← hB]; exact h)
    rw [hB, g2]; exact g1
  have hhi : n 0 0 0 - 1 < 100000 := by
    rw [show n 0 0 0 = nI (k_cc n) from (nI_cn hc0).symm]
    generalize k_cc n = c at *
    cases c with
    | zero => decide
    | succ c => rw [nI_pred]; exact nI_lt (b := 100000) (by omega) (by decide)
  obtain ⟨h1, h2⟩ := r_num_in hX hk2 (lo := 0) hhi
  rw [eb] at h1 h2
  have h3 := l_hi hc hc0 hb
  have e2 : l_r2 (q, n) = t_sn B 0 (n 0 0 0 - 1) := by rw [l_r2_e, ← hT, ← hB]
  have e3 := l_r3_e q n
  rw [← hT] at e3
  generalize l_r3 (q, n) = L3 at *
  generalize l_r2 (q, n) = L2 at *
  unfold t_sn at e2
  rw [if_neg (fun z => z h)] at e2
  refine ⟨fun hlt => ?_, fun hlt => ?_⟩
  · have hr := h3.mpr hlt
    rw [if_neg (fun z => h1.mp z hr), ← h2 hr] at e2
    rw [e2] at e3 ⊢
    exact ⟨rfl, e3⟩
  · rw [if_pos (h1.mpr (fun z => hlt (h3.mp z)))] at e2
    rw [e2] at e3
    rw [e3]
    have hf : t_fail (t_fail B 2) 2 = t_fail B 2 := t_fail_f 2 (t_fail_ne (by decide))
    show (if (0 : Int32) = T.1 then t_fail (t_fail B 2) 2 else t_fail B 2) = _
    rw [hf]
    split <;> rfl
theorem l_r4_err {q n L3 : ch_N} (h3 : L3 = l_r3 (q, n)) (h : ¬ L3 12 0 1 = 0) : l_r4 (q, n) = L3 := by
  rw [l_r4_e, ← h3]
  split
  · rfl
  · exact t_fail_f 4 h
theorem r_num_n {q p : ch_N} (hX : r_X1 q p) (h : q 12 0 7 = 2) : ∃ b, b < 2 ^ 31 ∧ r_num q (t_n q - t_s q) = nI b := by
  obtain ⟨a, b, -, e2, -, hb, -⟩ := r_num_rel (t_n q - t_s q) (t_digits hX h)
  exact ⟨b, by omega, e2⟩
theorem l_rel_e {q n : ch_N} (h : n 0 0 1 < 24) : l_rel (q, n) = ((l_r5 (q, n)).2, nw (nw (nw n 2 (k_rx (l_r1 (q, n)).1 (l_r2 (q, n)).1) 1 (l_r5 (q, n)).1) 2 (k_rx (l_r1 (q, n)).1 (l_r2 (q, n)).1) 0 1) 0 0 1 (n 0 0 1 + 1)) := if_neg (fun z => z h)
set_option maxHeartbeats 400000 in
theorem c_X12_readRelation {l : Launch} {E : ch_E} {S : ch_S} {μ : ch_M} (hs : ch_Std E S) {q : ch_N} (hX : r_X1 q (μ 16)) {n : ch_N} (hD : r_D n (μ 16 24 0)) (h0 : q 12 0 1 = 0) : ch_C E l yX12_readRelation cX12_readRelation 4 none 7 0 0 S μ [.ref (S.1 16 22 0)] (r_LP (l_rel (q, n)) S μ) := by
  refine ch_enter rfl rfl ?_
  intro X hl0 h hG hR hnm
  have h : ch_H X E RX12 cX12_readRelation 4 := h
  have hcc := hD.1.2.2.2.2.2.2.1
  have hc0 : ¬ n 0 0 0 < 0 := hD.1.2.1.2.1.2.2.2.1
  have hhi : n 0 0 0 - 1 < 100000 := by
    rw [show n 0 0 0 = nI (k_cc n) from (nI_cn hc0).symm]
    generalize k_cc n = c at *
    cases c with
    | zero => decide
    | succ c => rw [nI_pred]; exact nI_lt (b := 100000) (by omega) (by decide)
  obtain ⟨r, hr⟩ : ∃ z, z = Int32.toNatClampNeg (μ 16 24 0 1) := ⟨_, rfl⟩
  have hr24' : r ≤ 24 := by rw [hr]; exact hD.1.2.2.2.1.1.2
  obtain ⟨T1, hT1⟩ : ∃ z, z = l_r1 (q, n) := ⟨_, rfl⟩
  obtain ⟨L3, hL3⟩ : ∃ z, z = l_r3 (q, n) := ⟨_, rfl⟩
  obtain ⟨L4, hL4⟩ : ∃ z, z = l_r4 (q, n) := ⟨_, rfl⟩
  obtain ⟨T5, hT5⟩ : ∃ z, z = t_take (t_adv L4) 0 30 := ⟨_, rfl⟩
  have e01 : n 0 0 1 = nI r := by rw [← hD.1.1 1 (by decide), hr]; exact (nI_cn hD.1.2.2.2.1.1.1).symm
  show ch_W X E 4 S μ 0 0 0 [(0, .ref (S.1 16 22 0))] []
  refine ca_aload_nr h dX12_readRelation_0 rfl ?_
  refine ca_aload_nr h dX12_readRelation_1 rfl ?_
  refine gs_X12_13 h hs ⟨rfl, rfl⟩ dX12_readRelation_2 ?_
  refine ca_iconst h dX12_readRelation_5 ik_1 ?_
  refine ca_iald h rfl (hs.1 _ _ _ ⟨rfl, rfl⟩) (vp_in_nI (n := 1) (N := 1302) (by decide) (by decide)) dX12_readRelation_6 ?_
  refine ca_top (show _ = nI r by rw [show Int32.toNatClampNeg 1 = 1 from rfl, hr]; exact (nI_cn hD.1.2.2.2.1.1.1).symm) ?_
  refine ca_bipush h dX12_readRelation_7 bk_24 ?_
  refine ca_icmp_ge (tgt := 16) h dX12_readRelation_9 (by decide) (fun c_9 => ?_) (fun c_9 => ?_)
  ·
    refine ca_iconst h dX12_readRelation_16 ik_0 ?_
    refine ca_iconst h dX12_readRelation_17 ik_3 ?_
    refine ca_vXv h hG ml_X12_328 (c_X12_check hs hX) (ci := 12) rfl rfl rfl (hs.1 _ _ _ ⟨rfl, rfl⟩) rfl rfl rfl rfl ⟨Nat.le_refl _, Nat.le_refl _⟩ rfl dX12_readRelation_18 ?_
    intro μ9 hμ9
    obtain ⟨pa, rfl, hXa, hfa⟩ := hμ9
    refine ca_aload_nr h dX12_readRelation_21 rfl ?_
    refine ca_vXv h hG ml_X12_332 (c_X12_advance hs (by rw [up_s]; exact hXa)) (ci := 12) rfl rfl rfl (hs.1 _ _ _ ⟨rfl, rfl⟩) rfl rfl rfl rfl ⟨Nat.le_refl _, Nat.le_refl _⟩ rfl dX12_readRelation_22 ?_
    intro μ9 hμ9
    obtain ⟨p0, rfl, hX0, hf0⟩ := hμ9
    rw [up_up]
    rw [up_s] at hf0
    have hg0 := r_tf_tr hfa hf0
    have hd0 : p0 24 0 = μ 16 24 0 := by rw [hf0.1 24 (by decide), hfa.1 24 (by decide)]
    refine ca_aload_nr h dX12_readRelation_25 rfl ?_
    have eq0 : t_adv (r_chk q 0 3) = t_fail q 3 := by rw [show r_chk q 0 3 = t_fail q 3 from rfl, t_adv_f (t_fail_ne (by decide))]
    refine gi_X12_301 h (hs.1 _ _ _ ⟨rfl, rfl⟩) dX12_readRelation_26 ?_
    refine ca_top (show _ = (t_adv (r_chk q 0 3)) 12 0 1 by rw [up_s]; exact hX0.1.2.2.1) ?_
    refine ca_if_eq (tgt := 33) h dX12_readRelation_29 (by decide) (fun c_29 => ?_) (fun c_29 => ?_)
    · exact absurd c_29 (by rw [eq0]; exact t_fail_ne (by decide))
    ·
      refine ca_vreturn h hR dX12_readRelation_32 ?_
      have el : l_rel (q, n) = (t_fail q 3, n) := if_pos (by show ¬ n 0 0 1 < 24; rw [e01]; exact c_9)
      exact ⟨rfl, rfl, p0, rfl, by rw [el]; rw [eq0] at hX0; exact hX0, r_tg_tf hg0, fun z => absurd (by rw [el] at z; exact z) (t_fail_ne (by decide))⟩
  ·
    refine ca_iconst h dX12_readRelation_12 ik_1 ?_
    refine ca_goto (tgt := 17) h dX12_readRelation_13 (by decide) ?_
    refine ca_iconst h dX12_readRelation_17 ik_3 ?_
    refine ca_vXv h hG ml_X12_328 (c_X12_check hs hX) (ci := 12) rfl rfl rfl (hs.1 _ _ _ ⟨rfl, rfl⟩) rfl rfl rfl rfl ⟨Nat.le_refl _, Nat.le_refl _⟩ rfl dX12_readRelation_18 ?_
    intro μ9 hμ9
    obtain ⟨pa, rfl, hXa, hfa⟩ := hμ9
    refine ca_aload_nr h dX12_readRelation_21 rfl ?_
    refine ca_vXv h hG ml_X12_332 (c_X12_advance hs (by rw [up_s]; exact hXa)) (ci := 12) rfl rfl rfl (hs.1 _ _ _ ⟨rfl, rfl⟩) rfl rfl rfl rfl ⟨Nat.le_refl _, Nat.le_refl _⟩ rfl dX12_readRelation_22 ?_
    intro μ9 hμ9
    obtain ⟨p0, rfl, hX0, hf0⟩ := hμ9
    rw [up_up]
    rw [up_s] at hf0
    have hg0 := r_tf_tr hfa hf0
    have hd0 : p0 24 0 = μ 16 24 0 := by rw [hf0.1 24 (by decide), hfa.1 24 (by decide)]
    refine ca_aload_nr h dX12_readRelation_25 rfl ?_
    have eq0 : t_adv (r_chk q 1 3) = t_adv q := by rfl
    rw [eq0] at hX0
    have hr24 : r < 24 := (nI_ltI (b := 24) (by omega) (by decide)).mp c_9
    refine gi_X12_301 h (hs.1 _ _ _ ⟨rfl, rfl⟩) dX12_readRelation_26 ?_
    refine ca_top (show _ = (t_adv q) 12 0 1 by rw [up_s]; exact hX0.1.2.2.1) ?_
    refine ca_if_eq (tgt := 33) h dX12_readRelation_29 (by decide) (fun c_29 => ?_) (fun c_29 => ?_)
    ·
      refine ca_bipush h dX12_readRelation_33 bk_90 ?_
      refine ca_iconst h dX12_readRelation_35 ik_5 ?_
      refine ca_aload_nr h dX12_readRelation_36 rfl ?_
      refine gs_X12_13 h hs ⟨rfl, rfl⟩ dX12_readRelation_37 ?_
      refine ca_iconst h dX12_readRelation_40 ik_1 ?_
      refine ca_iald h rfl (hs.1 _ _ _ ⟨rfl, rfl⟩) (vp_in_nI (n := 1) (N := 1302) (by decide) (by decide)) dX12_readRelation_41 ?_
      refine ca_top (show _ = nI r by rw [show Int32.toNatClampNeg 1 = 1 from rfl, up_s, hd0, hr]; exact (nI_cn hD.1.2.2.2.1.1.1).symm) ?_
      refine ca_imul h dX12_readRelation_42 ?_
      refine ca_iadd h dX12_readRelation_43 ?_
      refine ca_top (show _ = nI (90 + 5 * r) by rw [show (90 : Int32) = nI 90 from rfl, show (5 : Int32) = nI 5 from rfl, pk_mul, nI_add]) ?_
      refine ca_istore_n h dX12_readRelation_44 rfl ?_
      refine ca_aload_nr h dX12_readRelation_45 rfl ?_
      refine ca_vXi h hG ml_X12_348 (c_X12_existing hs (q := t_adv q) (by rw [up_s]; exact hX0) (by rw [up_s, hd0, hD.1.1 0 (by decide)]; exact hhi)) (ci := 12) rfl rfl rfl (hs.1 _ _ _ ⟨rfl, rfl⟩) rfl rfl rfl rfl ⟨Nat.le_refl _, Nat.le_refl _⟩ rfl dX12_readRelation_46 ?_
      intro μ9 hμ9
      obtain ⟨p1, rfl, hX1, hf1⟩ := hμ9
      have e00 : up μ 16 p0 16 24 0 0 = n 0 0 0 := by rw [up_s, hd0, hD.1.1 0 (by decide)]
      rw [e00, ← l_r1_e, ← hT1] at hX1
      rw [up_up, e00, ← l_r1_e, ← hT1]
      rw [up_s] at hf1
      have hg1 := r_tf_tr hg0 hf1
      refine ca_istore_n h dX12_readRelation_49 rfl ?_
      refine ca_aload_nr h dX12_readRelation_50 rfl ?_
      refine ca_aload_nr h dX12_readRelation_51 rfl ?_
      refine gi_X12_301 h (hs.1 _ _ _ ⟨rfl, rfl⟩) dX12_readRelation_52 ?_
      refine ca_top (show _ = T1.2 12 0 1 by rw [up_s]; exact hX1.1.2.2.1) ?_
      refine ca_if_ne (tgt := 66) h dX12_readRelation_55 (by decide) (fun c_55 => ?_) (fun c_55 => ?_)
      ·
        refine ca_iconst h dX12_readRelation_66 ik_1 ?_
        refine ca_goto (tgt := 71) h dX12_readRelation_67 (by decide) ?_
        have e21 : r_chk T1.2 1 1 = r_q1 T1.2 := by have := r_q1_c _ _ hX1; rw [if_pos c_55] at this; exact this
        refine ca_iconst h dX12_readRelation_71 ik_1 ?_
        refine ca_vXv h hG ml_X12_328 (c_X12_check hs (q := T1.2) (by rw [up_s]; exact hX1)) (ci := 12) rfl rfl rfl (hs.1 _ _ _ ⟨rfl, rfl⟩) rfl rfl rfl rfl ⟨Nat.le_refl _, Nat.le_refl _⟩ rfl dX12_readRelation_72 ?_
        intro μ9 hμ9
        obtain ⟨p2, rfl, hX2, hf2⟩ := hμ9
        rw [e21] at hX2
        obtain ⟨QX, hQX⟩ : ∃ z, z = r_q1 T1.2 := ⟨_, rfl⟩
        rw [← hQX] at hX2
        rw [up_up]
        rw [up_s] at hf2
        have hg2 := r_tf_tr hg1 hf2
        refine ca_aload_nr h dX12_readRelation_75 rfl ?_
        refine gi_X12_301 h (hs.1 _ _ _ ⟨rfl, rfl⟩) dX12_readRelation_76 ?_
        refine ca_top (show _ = QX 12 0 1 by rw [up_s]; exact hX2.1.2.2.1) ?_
        refine ca_if_ne (tgt := 89) h dX12_readRelation_79 (by decide) (fun c_79 => ?_) (fun c_79 => ?_)
        ·
          refine ca_iconst h dX12_readRelation_89 ik_m1 ?_
          refine ca_istore_n h dX12_readRelation_90 rfl ?_
          refine ca_aload_nr h dX12_readRelation_91 rfl ?_
          refine ca_aload_nr h dX12_readRelation_92 rfl ?_
          refine gi_X12_301 h (hs.1 _ _ _ ⟨rfl, rfl⟩) dX12_readRelation_93 ?_
          refine ca_top (show _ = QX 12 0 1 by rw [up_s]; exact hX2.1.2.2.1) ?_
          refine ca_if_ne (tgt := 114) h dX12_readRelation_96 (by decide) (fun c_96 => ?_) (fun c_96 => ?_)
          ·
            refine ca_iconst h dX12_readRelation_114 ik_1 ?_
            refine ca_goto (tgt := 119) h dX12_readRelation_115 (by decide) ?_
            have e52 : r_chk QX 1 2 = L3 := by rw [r_chk_1, hL3]; exact (l_r3_err hT1 hQX c_96).symm
            have h30 : ¬ L3 12 0 1 = 0 := by rw [hL3, l_r3_err hT1 hQX c_96]; exact c_96
            refine ca_iconst h dX12_readRelation_119 ik_2 ?_
            refine ca_vXv h hG ml_X12_328 (c_X12_check hs (q := QX) (by rw [up_s]; exact hX2)) (ci := 12) rfl rfl rfl (hs.1 _ _ _ ⟨rfl, rfl⟩) rfl rfl rfl rfl ⟨Nat.le_refl _, Nat.le_refl _⟩ rfl dX12_readRelation_120 ?_
            intro μ9 hμ9
            obtain ⟨p3, rfl, hX3, hf3⟩ := hμ9
            rw [e52] at hX3
            rw [up_up]
            rw [up_s] at hf3
            have hg3 := r_tf_tr hg2 hf3
            refine ca_aload_nr h dX12_readRelation_123 rfl ?_
            refine ca_aload_nr h dX12_readRelation_124 rfl ?_
            refine gi_X12_301 h (hs.1 _ _ _ ⟨rfl, rfl⟩) dX12_readRelation_125 ?_
            refine ca_top (show _ = L3 12 0 1 by rw [up_s]; exact hX3.1.2.2.1) ?_
            refine ca_if_ne (tgt := 145) h dX12_readRelation_128 (by decide) (fun c_128 => ?_) (fun c_128 => ?_)
            ·
              refine ca_iconst h dX12_readRelation_145 ik_1 ?_
              refine ca_goto (tgt := 150) h dX12_readRelation_146 (by decide) ?_
              have e150 : r_chk L3 1 4 = L4 := by rw [r_chk_1, hL4]; exact (l_r4_err hL3 h30).symm
              have h40 : ¬ L4 12 0 1 = 0 := by rw [hL4, l_r4_err hL3 h30]; exact h30
              refine ca_iconst h dX12_readRelation_150 ik_4 ?_
              refine ca_vXv h hG ml_X12_328 (c_X12_check hs (q := L3) (by rw [up_s]; exact hX3)) (ci := 12) rfl rfl rfl (hs.1 _ _ _ ⟨rfl, rfl⟩) rfl rfl rfl rfl ⟨Nat.le_refl _, Nat.le_refl _⟩ rfl dX12_readRelation_151 ?_
              intro μ9 hμ9
              obtain ⟨p4, rfl, hX4, hf4⟩ := hμ9
              rw [e150] at hX4
              rw [up_up]
              rw [up_s] at hf4
              have hg4 := r_tf_tr hg3 hf4
              refine ca_aload_nr h dX12_readRelation_154 rfl ?_
              refine ca_vXv h hG ml_X12_332 (c_X12_advance hs (q := L4) (by rw [up_s]; exact hX4)) (ci := 12) rfl rfl rfl (hs.1 _ _ _ ⟨rfl, rfl⟩) rfl rfl rfl rfl ⟨Nat.le_refl _, Nat.le_refl _⟩ rfl dX12_readRelation_155 ?_
              intro μ9 hμ9
              obtain ⟨p5, rfl, hX5, hf5⟩ := hμ9
              rw [up_up]
              rw [up_s] at hf5
              have hg5 := r_tf_tr hg4 hf5
              refine ca_aload_nr h dX12_readRelation_158 rfl ?_
              refine ca_iload_n h dX12_readRelation_159 rfl ?_
              refine ca_iconst h dX12_readRelation_160 ik_2 ?_
              refine ca_iadd h dX12_readRelation_161 ?_
              refine ca_top (show _ = nI (90 + 5 * r + 2) by rw [show (2 : Int32) = nI 2 from rfl, nI_add]) ?_
              refine ca_iconst h dX12_readRelation_162 ik_0 ?_
              refine ca_bipush h dX12_readRelation_163 bk_30 ?_
              refine ca_vXv h hG ml_X12_345 (c_X12_putNumber hs (q := t_adv L4) (by rw [up_s]; exact hX5) (pl := 90 + 5 * r + 2) (by omega) (by decide)) (ci := 12) rfl rfl rfl (hs.1 _ _ _ ⟨rfl, rfl⟩) rfl rfl rfl rfl ⟨Nat.le_refl _, Nat.le_refl _⟩ rfl dX12_readRelation_165 ?_
              intro μ9 hμ9
              obtain ⟨p6, rfl, hX6, hg6, hd6⟩ := hμ9
              rw [up_up]
              rw [up_s] at hg6 hd6
              rw [← hT5] at hX6 hd6
              have hgg := r_tg_tr (r_tg_tf hg5) hg6
              refine ca_aload_nr h dX12_readRelation_168 rfl ?_
              refine gi_X12_301 h (hs.1 _ _ _ ⟨rfl, rfl⟩) dX12_readRelation_169 ?_
              refine ca_top (show _ = T5.2 12 0 1 by rw [up_s]; exact hX6.1.2.2.1) ?_
              refine ca_if_ne (tgt := 203) h dX12_readRelation_172 (by decide) (fun c_172 => ?_) (fun c_172 => ?_)
              ·
                refine ca_vreturn h hR dX12_readRelation_203 ?_
                have el := l_rel_e (q := q) (n := n) (by rw [e01]; exact c_9)
                have el5 : l_r5 (q, n) = T5 := by rw [hT5, hL4, l_r5_e]
                refine ⟨rfl, rfl, p6, rfl, by rw [el, el5]; exact hX6, hgg, fun z => ?_⟩
                rw [el, el5] at z
                exact absurd z c_172
              · exact absurd c_172 (by rw [hT5, t_take_err (by rw [t_adv_f h40]; exact h40), t_adv_f h40]; exact h40)
            · exact absurd c_128 h30
          · exact absurd c_96 c_79
        ·
          refine ca_aload_nr h dX12_readRelation_82 rfl ?_
          refine ca_vi h hG ml_X12_339 (c_X12_value hs (q := QX) (by rw [up_s]; exact hX2)) (ci := 12) rfl rfl rfl (hs.1 _ _ _ ⟨rfl, rfl⟩) rfl rfl rfl rfl ⟨Nat.le_refl _, Nat.le_refl _⟩ rfl dX12_readRelation_83 ?_
          obtain ⟨g1, g2⟩ := r_q1_k (q := T1.2) (by rw [← hQX]; exact c_79)
          have hk2 : QX 12 0 7 = 2 := by rw [hQX, g2]; exact g1
          obtain ⟨b, hb31, eb⟩ := r_num_n hX2 hk2
          have hok := l_r3_ok hT1 hQX hX2 hcc hc0 c_79 hb31 eb
          rw [if_pos hk2, eb]
          refine ca_goto (tgt := 90) h dX12_readRelation_86 (by decide) ?_
          refine ca_istore_n h dX12_readRelation_90 rfl ?_
          refine ca_aload_nr h dX12_readRelation_91 rfl ?_
          refine ca_aload_nr h dX12_readRelation_92 rfl ?_
          refine gi_X12_301 h (hs.1 _ _ _ ⟨rfl, rfl⟩) dX12_readRelation_93 ?_
          refine ca_top (show _ = QX 12 0 1 by rw [up_s]; exact hX2.1.2.2.1) ?_
          refine ca_if_ne (tgt := 114) h dX12_readRelation_96 (by decide) (fun c_96 => ?_) (fun c_96 => ?_)
          · exact absurd c_79 c_96
          ·
            refine ca_iload_n h dX12_readRelation_99 rfl ?_
            refine ca_aload_nr h dX12_readRelation_100 rfl ?_
            refine gs_X12_13 h hs ⟨rfl, rfl⟩ dX12_readRelation_101 ?_
            refine ca_iconst h dX12_readRelation_104 ik_0 ?_
            refine ca_iald h rfl (hs.1 _ _ _ ⟨rfl, rfl⟩) (vp_in_nI (n := 0) (N := 1302) (by decide) (by decide)) dX12_readRelation_105 ?_
            refine ca_top (show _ = n 0 0 0 by rw [show Int32.toNatClampNeg 0 = 0 from rfl, up_s, hg2.1 24 (by decide), hD.1.1 0 (by decide)]) ?_
            refine ca_icmp_ge (tgt := 118) h dX12_readRelation_106 (by decide) (fun c_106 => ?_) (fun c_106 => ?_)
            ·
              refine ca_iconst h dX12_readRelation_118 ik_0 ?_
              have e52 : r_chk QX 0 2 = L3 := by rw [r_chk_0, hL3]; exact (hok.2 c_106).symm
              have h30 : ¬ L3 12 0 1 = 0 := by rw [hL3, hok.2 c_106]; exact t_fail_ne (by decide)
              refine ca_iconst h dX12_readRelation_119 ik_2 ?_
              refine ca_vXv h hG ml_X12_328 (c_X12_check hs (q := QX) (by rw [up_s]; exact hX2)) (ci := 12) rfl rfl rfl (hs.1 _ _ _ ⟨rfl, rfl⟩) rfl rfl rfl rfl ⟨Nat.le_refl _, Nat.le_refl _⟩ rfl dX12_readRelation_120 ?_
              intro μ9 hμ9
              obtain ⟨p3, rfl, hX3, hf3⟩ := hμ9
              rw [e52] at hX3
              rw [up_up]
              rw [up_s] at hf3
              have hg3 := r_tf_tr hg2 hf3
              refine ca_aload_nr h dX12_readRelation_123 rfl ?_
              refine ca_aload_nr h dX12_readRelation_124 rfl ?_
              refine gi_X12_301 h (hs.1 _ _ _ ⟨rfl, rfl⟩) dX12_readRelation_125 ?_
              refine ca_top (show _ = L3 12 0 1 by rw [up_s]; exact hX3.1.2.2.1) ?_
              refine ca_if_ne (tgt := 145) h dX12_readRelation_128 (by decide) (fun c_128 => ?_) (fun c_128 => ?_)
              ·
                refine ca_iconst h dX12_readRelation_145 ik_1 ?_
                refine ca_goto (tgt := 150) h dX12_readRelation_146 (by decide) ?_
                have e150 : r_chk L3 1 4 = L4 := by rw [r_chk_1, hL4]; exact (l_r4_err hL3 h30).symm
                have h40 : ¬ L4 12 0 1 = 0 := by rw [hL4, l_r4_err hL3 h30]; exact h30
                refine ca_iconst h dX12_readRelation_150 ik_4 ?_
                refine ca_vXv h hG ml_X12_328 (c_X12_check hs (q := L3) (by rw [up_s]; exact hX3)) (ci := 12) rfl rfl rfl (hs.1 _ _ _ ⟨rfl, rfl⟩) rfl rfl rfl rfl ⟨Nat.le_refl _, Nat.le_refl _⟩ rfl dX12_readRelation_151 ?_
                intro μ9 hμ9
                obtain ⟨p4, rfl, hX4, hf4⟩ := hμ9
                rw [e150] at hX4
                rw [up_up]
                rw [up_s] at hf4
                have hg4 := r_tf_tr hg3 hf4
                refine ca_aload_nr h dX12_readRelation_154 rfl ?_
                refine ca_vXv h hG ml_X12_332 (c_X12_advance hs (q := L4) (by rw [up_s]; exact hX4)) (ci := 12) rfl rfl rfl (hs.1 _ _ _ ⟨rfl, rfl⟩) rfl rfl rfl rfl ⟨Nat.le_refl _, Nat.le_refl _⟩ rfl dX12_readRelation_155 ?_
                intro μ9 hμ9
                obtain ⟨p5, rfl, hX5, hf5⟩ := hμ9
                rw [up_up]
                rw [up_s] at hf5
                have hg5 := r_tf_tr hg4 hf5
                refine ca_aload_nr h dX12_readRelation_158 rfl ?_
                refine ca_iload_n h dX12_readRelation_159 rfl ?_
                refine ca_iconst h dX12_readRelation_160 ik_2 ?_
                refine ca_iadd h dX12_readRelation_161 ?_
                refine ca_top (show _ = nI (90 + 5 * r + 2) by rw [show (2 : Int32) = nI 2 from rfl, nI_add]) ?_
                refine ca_iconst h dX12_readRelation_162 ik_0 ?_
                refine ca_bipush h dX12_readRelation_163 bk_30 ?_
                refine ca_vXv h hG ml_X12_345 (c_X12_putNumber hs (q := t_adv L4) (by rw [up_s]; exact hX5) (pl := 90 + 5 * r + 2) (by omega) (by decide)) (ci := 12) rfl rfl rfl (hs.1 _ _ _ ⟨rfl, rfl⟩) rfl rfl rfl rfl ⟨Nat.le_refl _, Nat.le_refl _⟩ rfl dX12_readRelation_165 ?_
                intro μ9 hμ9
                obtain ⟨p6, rfl, hX6, hg6, hd6⟩ := hμ9
                rw [up_up]
                rw [up_s] at hg6 hd6
                rw [← hT5] at hX6 hd6
                have hgg := r_tg_tr (r_tg_tf hg5) hg6
                refine ca_aload_nr h dX12_readRelation_168 rfl ?_
                refine gi_X12_301 h (hs.1 _ _ _ ⟨rfl, rfl⟩) dX12_readRelation_169 ?_
                refine ca_top (show _ = T5.2 12 0 1 by rw [up_s]; exact hX6.1.2.2.1) ?_
                refine ca_if_ne (tgt := 203) h dX12_readRelation_172 (by decide) (fun c_172 => ?_) (fun c_172 => ?_)
                ·
                  refine ca_vreturn h hR dX12_readRelation_203 ?_
                  have el := l_rel_e (q := q) (n := n) (by rw [e01]; exact c_9)
                  have el5 : l_r5 (q, n) = T5 := by rw [hT5, hL4, l_r5_e]
                  refine ⟨rfl, rfl, p6, rfl, by rw [el, el5]; exact hX6, hgg, fun z => ?_⟩
                  rw [el, el5] at z
                  exact absurd z c_172
                · exact absurd c_172 (by rw [hT5, t_take_err (by rw [t_adv_f h40]; exact h40), t_adv_f h40]; exact h40)
              · exact absurd c_128 h30
            ·
              refine ca_iload_n h dX12_readRelation_109 rfl ?_
              refine ca_iload_n h dX12_readRelation_110 rfl ?_
              refine ca_icmp_eq (tgt := 118) h dX12_readRelation_111 (by decide) (fun c_111 => ?_) (fun c_111 => ?_)
              ·
                refine ca_iconst h dX12_readRelation_118 ik_0 ?_
                have e52 : r_chk QX 0 2 = L3 := by rw [r_chk_0, hL3, (hok.1 c_106).2, if_pos c_111]
                have h30 : ¬ L3 12 0 1 = 0 := by rw [hL3, (hok.1 c_106).2, if_pos c_111]; exact t_fail_ne (by decide)
                refine ca_iconst h dX12_readRelation_119 ik_2 ?_
                refine ca_vXv h hG ml_X12_328 (c_X12_check hs (q := QX) (by rw [up_s]; exact hX2)) (ci := 12) rfl rfl rfl (hs.1 _ _ _ ⟨rfl, rfl⟩) rfl rfl rfl rfl ⟨Nat.le_refl _, Nat.le_refl _⟩ rfl dX12_readRelation_120 ?_
                intro μ9 hμ9
                obtain ⟨p3, rfl, hX3, hf3⟩ := hμ9
                rw [e52] at hX3
                rw [up_up]
                rw [up_s] at hf3
                have hg3 := r_tf_tr hg2 hf3
                refine ca_aload_nr h dX12_readRelation_123 rfl ?_
                refine ca_aload_nr h dX12_readRelation_124 rfl ?_
                refine gi_X12_301 h (hs.1 _ _ _ ⟨rfl, rfl⟩) dX12_readRelation_125 ?_
                refine ca_top (show _ = L3 12 0 1 by rw [up_s]; exact hX3.1.2.2.1) ?_
                refine ca_if_ne (tgt := 145) h dX12_readRelation_128 (by decide) (fun c_128 => ?_) (fun c_128 => ?_)
                ·
                  refine ca_iconst h dX12_readRelation_145 ik_1 ?_
                  refine ca_goto (tgt := 150) h dX12_readRelation_146 (by decide) ?_
                  have e150 : r_chk L3 1 4 = L4 := by rw [r_chk_1, hL4]; exact (l_r4_err hL3 h30).symm
                  have h40 : ¬ L4 12 0 1 = 0 := by rw [hL4, l_r4_err hL3 h30]; exact h30
                  refine ca_iconst h dX12_readRelation_150 ik_4 ?_
                  refine ca_vXv h hG ml_X12_328 (c_X12_check hs (q := L3) (by rw [up_s]; exact hX3)) (ci := 12) rfl rfl rfl (hs.1 _ _ _ ⟨rfl, rfl⟩) rfl rfl rfl rfl ⟨Nat.le_refl _, Nat.le_refl _⟩ rfl dX12_readRelation_151 ?_
                  intro μ9 hμ9
                  obtain ⟨p4, rfl, hX4, hf4⟩ := hμ9
                  rw [e150] at hX4
                  rw [up_up]
                  rw [up_s] at hf4
                  have hg4 := r_tf_tr hg3 hf4
                  refine ca_aload_nr h dX12_readRelation_154 rfl ?_
                  refine ca_vXv h hG ml_X12_332 (c_X12_advance hs (q := L4) (by rw [up_s]; exact hX4)) (ci := 12) rfl rfl rfl (hs.1 _ _ _ ⟨rfl, rfl⟩) rfl rfl rfl rfl ⟨Nat.le_refl _, Nat.le_refl _⟩ rfl dX12_readRelation_155 ?_
                  intro μ9 hμ9
                  obtain ⟨p5, rfl, hX5, hf5⟩ := hμ9
                  rw [up_up]
                  rw [up_s] at hf5
                  have hg5 := r_tf_tr hg4 hf5
                  refine ca_aload_nr h dX12_readRelation_158 rfl ?_
                  refine ca_iload_n h dX12_readRelation_159 rfl ?_
                  refine ca_iconst h dX12_readRelation_160 ik_2 ?_
                  refine ca_iadd h dX12_readRelation_161 ?_
                  refine ca_top (show _ = nI (90 + 5 * r + 2) by rw [show (2 : Int32) = nI 2 from rfl, nI_add]) ?_
                  refine ca_iconst h dX12_readRelation_162 ik_0 ?_
                  refine ca_bipush h dX12_readRelation_163 bk_30 ?_
                  refine ca_vXv h hG ml_X12_345 (c_X12_putNumber hs (q := t_adv L4) (by rw [up_s]; exact hX5) (pl := 90 + 5 * r + 2) (by omega) (by decide)) (ci := 12) rfl rfl rfl (hs.1 _ _ _ ⟨rfl, rfl⟩) rfl rfl rfl rfl ⟨Nat.le_refl _, Nat.le_refl _⟩ rfl dX12_readRelation_165 ?_
                  intro μ9 hμ9
                  obtain ⟨p6, rfl, hX6, hg6, hd6⟩ := hμ9
                  rw [up_up]
                  rw [up_s] at hg6 hd6
                  rw [← hT5] at hX6 hd6
                  have hgg := r_tg_tr (r_tg_tf hg5) hg6
                  refine ca_aload_nr h dX12_readRelation_168 rfl ?_
                  refine gi_X12_301 h (hs.1 _ _ _ ⟨rfl, rfl⟩) dX12_readRelation_169 ?_
                  refine ca_top (show _ = T5.2 12 0 1 by rw [up_s]; exact hX6.1.2.2.1) ?_
                  refine ca_if_ne (tgt := 203) h dX12_readRelation_172 (by decide) (fun c_172 => ?_) (fun c_172 => ?_)
                  ·
                    refine ca_vreturn h hR dX12_readRelation_203 ?_
                    have el := l_rel_e (q := q) (n := n) (by rw [e01]; exact c_9)
                    have el5 : l_r5 (q, n) = T5 := by rw [hT5, hL4, l_r5_e]
                    refine ⟨rfl, rfl, p6, rfl, by rw [el, el5]; exact hX6, hgg, fun z => ?_⟩
                    rw [el, el5] at z
                    exact absurd z c_172
                  · exact absurd c_172 (by rw [hT5, t_take_err (by rw [t_adv_f h40]; exact h40), t_adv_f h40]; exact h40)
                · exact absurd c_128 h30
              ·
                refine ca_iconst h dX12_readRelation_114 ik_1 ?_
                refine ca_goto (tgt := 119) h dX12_readRelation_115 (by decide) ?_
                have e52 : r_chk QX 1 2 = L3 := by rw [r_chk_1, hL3, (hok.1 c_106).2, if_neg c_111]
                have h30 : L3 12 0 1 = 0 := by rw [hL3, (hok.1 c_106).2, if_neg c_111]; exact c_96
                refine ca_iconst h dX12_readRelation_119 ik_2 ?_
                refine ca_vXv h hG ml_X12_328 (c_X12_check hs (q := QX) (by rw [up_s]; exact hX2)) (ci := 12) rfl rfl rfl (hs.1 _ _ _ ⟨rfl, rfl⟩) rfl rfl rfl rfl ⟨Nat.le_refl _, Nat.le_refl _⟩ rfl dX12_readRelation_120 ?_
                intro μ9 hμ9
                obtain ⟨p3, rfl, hX3, hf3⟩ := hμ9
                rw [e52] at hX3
                rw [up_up]
                rw [up_s] at hf3
                have hg3 := r_tf_tr hg2 hf3
                refine ca_aload_nr h dX12_readRelation_123 rfl ?_
                refine ca_aload_nr h dX12_readRelation_124 rfl ?_
                refine gi_X12_301 h (hs.1 _ _ _ ⟨rfl, rfl⟩) dX12_readRelation_125 ?_
                refine ca_top (show _ = L3 12 0 1 by rw [up_s]; exact hX3.1.2.2.1) ?_
                refine ca_if_ne (tgt := 145) h dX12_readRelation_128 (by decide) (fun c_128 => ?_) (fun c_128 => ?_)
                · exact absurd h30 c_128
                ·
                  obtain ⟨z0, l0, u0⟩ := t_take_in (q := t_adv q) (p := p0) (lo := 0) (hi := n 0 0 0 - 1) hX0 (by rw [← l_r1_e, ← hT1, ← (r_q1_k (q := T1.2) (by rw [← hQX]; exact c_96)).2, ← hQX]; exact c_96)
                  rw [← l_r1_e, ← hT1] at l0 u0
                  obtain ⟨a, ha31, ea⟩ := nI_of l0
                  have haC : nI a < n 0 0 0 := (l_hi hcc hc0 ha31).mp (by rw [← ea]; exact ⟨l0, u0⟩)
                  have e0c : n 0 0 0 = nI (k_cc n) := (nI_cn hc0).symm
                  have hac : a < k_cc n := (nI_ltI ha31 (by omega)).mp (by rw [← e0c]; exact haC)
                  have hbc : b < k_cc n := (nI_ltI hb31 (by omega)).mp (by rw [← e0c]; exact c_106)
                  have ha8 : a < 8 := by omega
                  have hb8 : b < 8 := by omega
                  have hNd : r_N n (μ 16 24 0) := hD.1
                  refine ca_aload_nr h dX12_readRelation_131 rfl ?_
                  refine ca_aload_nr h dX12_readRelation_132 rfl ?_
                  refine gs_X12_13 h hs ⟨rfl, rfl⟩ dX12_readRelation_133 ?_
                  refine ca_iload_n h dX12_readRelation_136 rfl ?_
                  refine ca_iload_n h dX12_readRelation_137 rfl ?_
                  refine ca_vi h hG ml_X12_81 (c_X12_relationOfD hs (by rw [up_s, hg3.1 24 (by decide)]; exact hD.1.2.2.2.1.1.2)) (ci := 12) rfl rfl rfl (hs.1 _ _ _ ⟨rfl, rfl⟩) rfl rfl rfl rfl ⟨Nat.le_refl _, Nat.le_refl _⟩ rfl dX12_readRelation_138 ?_
                  rw [show up μ 16 p3 16 24 0 = μ 16 24 0 by rw [up_s, hg3.1 24 (by decide)], ea]
                  refine ca_iconst h dX12_readRelation_141 ik_m1 ?_
                  refine ca_icmp_ne (tgt := 149) h dX12_readRelation_142 (by decide) (fun c_142 => ?_) (fun c_142 => ?_)
                  ·
                    refine ca_iconst h dX12_readRelation_149 ik_0 ?_
                    have hz : ¬ n 2 (8 * a + b) 0 = 0 := fun z => c_142 ((r_nb hNd ha8 hb8).mpr z)
                    have el4 : L4 = t_fail L3 4 := by rw [hL4, l_r4_e, (hok.1 c_106).1, ← hT1, ea, r_rx ha8 hb8, if_neg hz, ← hL3]
                    have e150 : r_chk L3 0 4 = L4 := by rw [r_chk_0]; exact el4.symm
                    have h40 : ¬ L4 12 0 1 = 0 := by rw [el4]; exact t_fail_ne (by decide)
                    refine ca_iconst h dX12_readRelation_150 ik_4 ?_
                    refine ca_vXv h hG ml_X12_328 (c_X12_check hs (q := L3) (by rw [up_s]; exact hX3)) (ci := 12) rfl rfl rfl (hs.1 _ _ _ ⟨rfl, rfl⟩) rfl rfl rfl rfl ⟨Nat.le_refl _, Nat.le_refl _⟩ rfl dX12_readRelation_151 ?_
                    intro μ9 hμ9
                    obtain ⟨p4, rfl, hX4, hf4⟩ := hμ9
                    rw [e150] at hX4
                    rw [up_up]
                    rw [up_s] at hf4
                    have hg4 := r_tf_tr hg3 hf4
                    refine ca_aload_nr h dX12_readRelation_154 rfl ?_
                    refine ca_vXv h hG ml_X12_332 (c_X12_advance hs (q := L4) (by rw [up_s]; exact hX4)) (ci := 12) rfl rfl rfl (hs.1 _ _ _ ⟨rfl, rfl⟩) rfl rfl rfl rfl ⟨Nat.le_refl _, Nat.le_refl _⟩ rfl dX12_readRelation_155 ?_
                    intro μ9 hμ9
                    obtain ⟨p5, rfl, hX5, hf5⟩ := hμ9
                    rw [up_up]
                    rw [up_s] at hf5
                    have hg5 := r_tf_tr hg4 hf5
                    refine ca_aload_nr h dX12_readRelation_158 rfl ?_
                    refine ca_iload_n h dX12_readRelation_159 rfl ?_
                    refine ca_iconst h dX12_readRelation_160 ik_2 ?_
                    refine ca_iadd h dX12_readRelation_161 ?_
                    refine ca_top (show _ = nI (90 + 5 * r + 2) by rw [show (2 : Int32) = nI 2 from rfl, nI_add]) ?_
                    refine ca_iconst h dX12_readRelation_162 ik_0 ?_
                    refine ca_bipush h dX12_readRelation_163 bk_30 ?_
                    refine ca_vXv h hG ml_X12_345 (c_X12_putNumber hs (q := t_adv L4) (by rw [up_s]; exact hX5) (pl := 90 + 5 * r + 2) (by omega) (by decide)) (ci := 12) rfl rfl rfl (hs.1 _ _ _ ⟨rfl, rfl⟩) rfl rfl rfl rfl ⟨Nat.le_refl _, Nat.le_refl _⟩ rfl dX12_readRelation_165 ?_
                    intro μ9 hμ9
                    obtain ⟨p6, rfl, hX6, hg6, hd6⟩ := hμ9
                    rw [up_up]
                    rw [up_s] at hg6 hd6
                    rw [← hT5] at hX6 hd6
                    have hgg := r_tg_tr (r_tg_tf hg5) hg6
                    refine ca_aload_nr h dX12_readRelation_168 rfl ?_
                    refine gi_X12_301 h (hs.1 _ _ _ ⟨rfl, rfl⟩) dX12_readRelation_169 ?_
                    refine ca_top (show _ = T5.2 12 0 1 by rw [up_s]; exact hX6.1.2.2.1) ?_
                    refine ca_if_ne (tgt := 203) h dX12_readRelation_172 (by decide) (fun c_172 => ?_) (fun c_172 => ?_)
                    ·
                      refine ca_vreturn h hR dX12_readRelation_203 ?_
                      have el := l_rel_e (q := q) (n := n) (by rw [e01]; exact c_9)
                      have el5 : l_r5 (q, n) = T5 := by rw [hT5, hL4, l_r5_e]
                      refine ⟨rfl, rfl, p6, rfl, by rw [el, el5]; exact hX6, hgg, fun z => ?_⟩
                      rw [el, el5] at z
                      exact absurd z c_172
                    · exact absurd c_172 (by rw [hT5, t_take_err (by rw [t_adv_f h40]; exact h40), t_adv_f h40]; exact h40)
                  ·
                    refine ca_iconst h dX12_readRelation_145 ik_1 ?_
                    refine ca_goto (tgt := 150) h dX12_readRelation_146 (by decide) ?_
                    have hz : n 2 (8 * a + b) 0 = 0 := (r_nb hNd ha8 hb8).mp c_142
                    have el4 : L4 = L3 := by rw [hL4, l_r4_e, (hok.1 c_106).1, ← hT1, ea, r_rx ha8 hb8, if_pos hz, ← hL3]
                    have e150 : r_chk L3 1 4 = L4 := by rw [r_chk_1]; exact el4.symm
                    refine ca_iconst h dX12_readRelation_150 ik_4 ?_
                    refine ca_vXv h hG ml_X12_328 (c_X12_check hs (q := L3) (by rw [up_s]; exact hX3)) (ci := 12) rfl rfl rfl (hs.1 _ _ _ ⟨rfl, rfl⟩) rfl rfl rfl rfl ⟨Nat.le_refl _, Nat.le_refl _⟩ rfl dX12_readRelation_151 ?_
                    intro μ9 hμ9
                    obtain ⟨p4, rfl, hX4, hf4⟩ := hμ9
                    rw [e150] at hX4
                    rw [up_up]
                    rw [up_s] at hf4
                    have hg4 := r_tf_tr hg3 hf4
                    refine ca_aload_nr h dX12_readRelation_154 rfl ?_
                    refine ca_vXv h hG ml_X12_332 (c_X12_advance hs (q := L4) (by rw [up_s]; exact hX4)) (ci := 12) rfl rfl rfl (hs.1 _ _ _ ⟨rfl, rfl⟩) rfl rfl rfl rfl ⟨Nat.le_refl _, Nat.le_refl _⟩ rfl dX12_readRelation_155 ?_
                    intro μ9 hμ9
                    obtain ⟨p5, rfl, hX5, hf5⟩ := hμ9
                    rw [up_up]
                    rw [up_s] at hf5
                    have hg5 := r_tf_tr hg4 hf5
                    refine ca_aload_nr h dX12_readRelation_158 rfl ?_
                    refine ca_iload_n h dX12_readRelation_159 rfl ?_
                    refine ca_iconst h dX12_readRelation_160 ik_2 ?_
                    refine ca_iadd h dX12_readRelation_161 ?_
                    refine ca_top (show _ = nI (90 + 5 * r + 2) by rw [show (2 : Int32) = nI 2 from rfl, nI_add]) ?_
                    refine ca_iconst h dX12_readRelation_162 ik_0 ?_
                    refine ca_bipush h dX12_readRelation_163 bk_30 ?_
                    refine ca_vXv h hG ml_X12_345 (c_X12_putNumber hs (q := t_adv L4) (by rw [up_s]; exact hX5) (pl := 90 + 5 * r + 2) (by omega) (by decide)) (ci := 12) rfl rfl rfl (hs.1 _ _ _ ⟨rfl, rfl⟩) rfl rfl rfl rfl ⟨Nat.le_refl _, Nat.le_refl _⟩ rfl dX12_readRelation_165 ?_
                    intro μ9 hμ9
                    obtain ⟨p6, rfl, hX6, hg6, hd6⟩ := hμ9
                    rw [up_up]
                    rw [up_s] at hg6 hd6
                    rw [← hT5] at hX6 hd6
                    have hgg := r_tg_tr (r_tg_tf hg5) hg6
                    refine ca_aload_nr h dX12_readRelation_168 rfl ?_
                    refine gi_X12_301 h (hs.1 _ _ _ ⟨rfl, rfl⟩) dX12_readRelation_169 ?_
                    refine ca_top (show _ = T5.2 12 0 1 by rw [up_s]; exact hX6.1.2.2.1) ?_
                    refine ca_if_ne (tgt := 203) h dX12_readRelation_172 (by decide) (fun c_172 => ?_) (fun c_172 => ?_)
                    ·
                      refine ca_vreturn h hR dX12_readRelation_203 ?_
                      have el := l_rel_e (q := q) (n := n) (by rw [e01]; exact c_9)
                      have el5 : l_r5 (q, n) = T5 := by rw [hT5, hL4, l_r5_e]
                      refine ⟨rfl, rfl, p6, rfl, by rw [el, el5]; exact hX6, hgg, fun z => ?_⟩
                      rw [el, el5] at z
                      exact absurd z c_172
                    ·
                      refine ca_aload_nr h dX12_readRelation_175 rfl ?_
                      refine gs_X12_13 h hs ⟨rfl, rfl⟩ dX12_readRelation_176 ?_
                      refine ca_iload_n h dX12_readRelation_179 rfl ?_
                      refine ca_iconst h dX12_readRelation_180 ik_0 ?_
                      refine ca_iadd h dX12_readRelation_181 ?_
                      refine ca_top (show _ = nI (90 + 5 * r) by rw [Int32.add_zero]) ?_
                      refine ca_iload_n h dX12_readRelation_182 rfl ?_
                      refine ca_iast h rfl (hs.1 _ _ _ ⟨rfl, rfl⟩) (vp_in_nI (by omega) (by decide)) dX12_readRelation_183 ?_
                      refine ca_aload_nr h dX12_readRelation_184 rfl ?_
                      refine gs_X12_13 h hs ⟨rfl, rfl⟩ dX12_readRelation_185 ?_
                      refine ca_iload_n h dX12_readRelation_188 rfl ?_
                      refine ca_iconst h dX12_readRelation_189 ik_1 ?_
                      refine ca_iadd h dX12_readRelation_190 ?_
                      refine ca_top (show _ = nI (90 + 5 * r + 1) by rw [nI_1]) ?_
                      refine ca_iload_n h dX12_readRelation_191 rfl ?_
                      refine ca_iast h rfl (hs.1 _ _ _ ⟨rfl, rfl⟩) (vp_in_nI (by omega) (by decide)) dX12_readRelation_192 ?_
                      refine ca_aload_nr h dX12_readRelation_193 rfl ?_
                      refine gs_X12_13 h hs ⟨rfl, rfl⟩ dX12_readRelation_194 ?_
                      refine ca_iconst h dX12_readRelation_197 ik_1 ?_
                      refine ca_dup2 h dX12_readRelation_198 rfl rfl ?_
                      refine ca_iald h rfl (hs.1 _ _ _ ⟨rfl, rfl⟩) (vp_in_nI (n := 1) (N := 1302) (by decide) (by decide)) dX12_readRelation_199 ?_
                      refine ca_iconst h dX12_readRelation_200 ik_1 ?_
                      refine ca_iadd h dX12_readRelation_201 ?_
                      refine ca_iast h rfl (hs.1 _ _ _ ⟨rfl, rfl⟩) (vp_in_nI (n := 1) (N := 1302) (by decide) (by decide)) dX12_readRelation_202 ?_
                      refine ca_vreturn h hR dX12_readRelation_203 ?_
                      have el := l_rel_e (q := q) (n := n) (by rw [e01]; exact c_9)
                      have el5 : l_r5 (q, n) = T5 := by rw [hT5, hL4, l_r5_e]
                      rw [el5, (hok.1 c_106).1, ← hT1, ea, r_rx ha8 hb8, e01, nI_1] at el
                      rw [r_dn_0 c_172] at hd6
                      have hd60 : p6 24 0 = up (μ 16 24 0) (90 + 5 * r + 2) T5.1 := by rw [hd6, hg5.1 24 (by decide)]
                      refine ⟨rfl, rfl, _, by simp only [ch_st_nw, up_s, up_up]; rfl, by rw [el]; exact r_X1_24 (r_X1_24 (r_X1_24 hX6)), r_tg_tr (r_tg_tr (r_tg_tr hgg r_tg_24) r_tg_24) r_tg_24, fun z => ?_⟩
                      rw [el]
                      show r_D (nw (nw (nw n 2 (8 * a + b) 1 T5.1) 2 (8 * a + b) 0 1) 0 0 1 (nI (r + 1))) _
                      refine r_D_rel hD hac hbc hr hr24 hz rfl (fun j => ?_)
                      simp only [nw_24]
                      rw [hd60, nI_clamp (show 90 + 5 * r < 2 ^ 31 by omega), nI_clamp (show 90 + 5 * r + 1 < 2 ^ 31 by omega), show Int32.toNatClampNeg 1 = 1 from rfl]
                      simp only [up_ap]
                      have e1 : (if (1 : Nat) = 90 + 5 * r + 1 then nI b else if 1 = 90 + 5 * r then nI a else if 1 = 90 + 5 * r + 2 then T5.1 else μ 16 24 0 1) + 1 = nI (r + 1) := by
                        rw [if_neg (by omega), if_neg (by omega), if_neg (by omega), hD.1.1 1 (by decide), e01, nI_1]
                      by_cases h1 : j = 1
                      · rw [if_pos h1, if_pos h1]; first | exact e1 | (rw [if_neg (by omega), if_neg (by omega), if_neg (by omega), hD.1.1 1 (by decide), e01, nI_1])
                      · rw [if_neg h1, if_neg h1]
                        by_cases h2 : j = 90 + 5 * r + 1
                        · rw [if_pos h2, if_neg (by omega), if_pos h2]
                        · rw [if_neg h2]
                          by_cases h3 : j = 90 + 5 * r
                          · rw [if_pos h3, if_pos h3]
                          · rw [if_neg h3, if_neg h3, if_neg h2]
      ·
        refine ca_aload_nr h dX12_readRelation_58 rfl ?_
        refine gi_X12_292 h (hs.1 _ _ _ ⟨rfl, rfl⟩) dX12_readRelation_59 ?_
        refine ca_top (show _ = r_tok (T1.2 12 0 7) by rw [up_s]; exact hX1.2.2.2.1) ?_
        refine ca_iconst h dX12_readRelation_62 ik_2 ?_
        refine ca_icmp_ne (tgt := 70) h dX12_readRelation_63 (by decide) (fun c_63 => ?_) (fun c_63 => ?_)
        ·
          refine ca_iconst h dX12_readRelation_70 ik_0 ?_
          have e21 : r_chk T1.2 0 1 = r_q1 T1.2 := by have := r_q1_c _ _ hX1; rw [if_neg (fun z => z c_55), if_neg c_63] at this; exact this
          refine ca_iconst h dX12_readRelation_71 ik_1 ?_
          refine ca_vXv h hG ml_X12_328 (c_X12_check hs (q := T1.2) (by rw [up_s]; exact hX1)) (ci := 12) rfl rfl rfl (hs.1 _ _ _ ⟨rfl, rfl⟩) rfl rfl rfl rfl ⟨Nat.le_refl _, Nat.le_refl _⟩ rfl dX12_readRelation_72 ?_
          intro μ9 hμ9
          obtain ⟨p2, rfl, hX2, hf2⟩ := hμ9
          rw [e21] at hX2
          obtain ⟨QX, hQX⟩ : ∃ z, z = r_q1 T1.2 := ⟨_, rfl⟩
          rw [← hQX] at hX2
          rw [up_up]
          rw [up_s] at hf2
          have hg2 := r_tf_tr hg1 hf2
          refine ca_aload_nr h dX12_readRelation_75 rfl ?_
          refine gi_X12_301 h (hs.1 _ _ _ ⟨rfl, rfl⟩) dX12_readRelation_76 ?_
          refine ca_top (show _ = QX 12 0 1 by rw [up_s]; exact hX2.1.2.2.1) ?_
          refine ca_if_ne (tgt := 89) h dX12_readRelation_79 (by decide) (fun c_79 => ?_) (fun c_79 => ?_)
          ·
            refine ca_iconst h dX12_readRelation_89 ik_m1 ?_
            refine ca_istore_n h dX12_readRelation_90 rfl ?_
            refine ca_aload_nr h dX12_readRelation_91 rfl ?_
            refine ca_aload_nr h dX12_readRelation_92 rfl ?_
            refine gi_X12_301 h (hs.1 _ _ _ ⟨rfl, rfl⟩) dX12_readRelation_93 ?_
            refine ca_top (show _ = QX 12 0 1 by rw [up_s]; exact hX2.1.2.2.1) ?_
            refine ca_if_ne (tgt := 114) h dX12_readRelation_96 (by decide) (fun c_96 => ?_) (fun c_96 => ?_)
            ·
              refine ca_iconst h dX12_readRelation_114 ik_1 ?_
              refine ca_goto (tgt := 119) h dX12_readRelation_115 (by decide) ?_
              have e52 : r_chk QX 1 2 = L3 := by rw [r_chk_1, hL3]; exact (l_r3_err hT1 hQX c_96).symm
              have h30 : ¬ L3 12 0 1 = 0 := by rw [hL3, l_r3_err hT1 hQX c_96]; exact c_96
              refine ca_iconst h dX12_readRelation_119 ik_2 ?_
              refine ca_vXv h hG ml_X12_328 (c_X12_check hs (q := QX) (by rw [up_s]; exact hX2)) (ci := 12) rfl rfl rfl (hs.1 _ _ _ ⟨rfl, rfl⟩) rfl rfl rfl rfl ⟨Nat.le_refl _, Nat.le_refl _⟩ rfl dX12_readRelation_120 ?_
              intro μ9 hμ9
              obtain ⟨p3, rfl, hX3, hf3⟩ := hμ9
              rw [e52] at hX3
              rw [up_up]
              rw [up_s] at hf3
              have hg3 := r_tf_tr hg2 hf3
              refine ca_aload_nr h dX12_readRelation_123 rfl ?_
              refine ca_aload_nr h dX12_readRelation_124 rfl ?_
              refine gi_X12_301 h (hs.1 _ _ _ ⟨rfl, rfl⟩) dX12_readRelation_125 ?_
              refine ca_top (show _ = L3 12 0 1 by rw [up_s]; exact hX3.1.2.2.1) ?_
              refine ca_if_ne (tgt := 145) h dX12_readRelation_128 (by decide) (fun c_128 => ?_) (fun c_128 => ?_)
              ·
                refine ca_iconst h dX12_readRelation_145 ik_1 ?_
                refine ca_goto (tgt := 150) h dX12_readRelation_146 (by decide) ?_
                have e150 : r_chk L3 1 4 = L4 := by rw [r_chk_1, hL4]; exact (l_r4_err hL3 h30).symm
                have h40 : ¬ L4 12 0 1 = 0 := by rw [hL4, l_r4_err hL3 h30]; exact h30
                refine ca_iconst h dX12_readRelation_150 ik_4 ?_
                refine ca_vXv h hG ml_X12_328 (c_X12_check hs (q := L3) (by rw [up_s]; exact hX3)) (ci := 12) rfl rfl rfl (hs.1 _ _ _ ⟨rfl, rfl⟩) rfl rfl rfl rfl ⟨Nat.le_refl _, Nat.le_refl _⟩ rfl dX12_readRelation_151 ?_
                intro μ9 hμ9
                obtain ⟨p4, rfl, hX4, hf4⟩ := hμ9
                rw [e150] at hX4
                rw [up_up]
                rw [up_s] at hf4
                have hg4 := r_tf_tr hg3 hf4
                refine ca_aload_nr h dX12_readRelation_154 rfl ?_
                refine ca_vXv h hG ml_X12_332 (c_X12_advance hs (q := L4) (by rw [up_s]; exact hX4)) (ci := 12) rfl rfl rfl (hs.1 _ _ _ ⟨rfl, rfl⟩) rfl rfl rfl rfl ⟨Nat.le_refl _, Nat.le_refl _⟩ rfl dX12_readRelation_155 ?_
                intro μ9 hμ9
                obtain ⟨p5, rfl, hX5, hf5⟩ := hμ9
                rw [up_up]
                rw [up_s] at hf5
                have hg5 := r_tf_tr hg4 hf5
                refine ca_aload_nr h dX12_readRelation_158 rfl ?_
                refine ca_iload_n h dX12_readRelation_159 rfl ?_
                refine ca_iconst h dX12_readRelation_160 ik_2 ?_
                refine ca_iadd h dX12_readRelation_161 ?_
                refine ca_top (show _ = nI (90 + 5 * r + 2) by rw [show (2 : Int32) = nI 2 from rfl, nI_add]) ?_
                refine ca_iconst h dX12_readRelation_162 ik_0 ?_
                refine ca_bipush h dX12_readRelation_163 bk_30 ?_
                refine ca_vXv h hG ml_X12_345 (c_X12_putNumber hs (q := t_adv L4) (by rw [up_s]; exact hX5) (pl := 90 + 5 * r + 2) (by omega) (by decide)) (ci := 12) rfl rfl rfl (hs.1 _ _ _ ⟨rfl, rfl⟩) rfl rfl rfl rfl ⟨Nat.le_refl _, Nat.le_refl _⟩ rfl dX12_readRelation_165 ?_
                intro μ9 hμ9
                obtain ⟨p6, rfl, hX6, hg6, hd6⟩ := hμ9
                rw [up_up]
                rw [up_s] at hg6 hd6
                rw [← hT5] at hX6 hd6
                have hgg := r_tg_tr (r_tg_tf hg5) hg6
                refine ca_aload_nr h dX12_readRelation_168 rfl ?_
                refine gi_X12_301 h (hs.1 _ _ _ ⟨rfl, rfl⟩) dX12_readRelation_169 ?_
                refine ca_top (show _ = T5.2 12 0 1 by rw [up_s]; exact hX6.1.2.2.1) ?_
                refine ca_if_ne (tgt := 203) h dX12_readRelation_172 (by decide) (fun c_172 => ?_) (fun c_172 => ?_)
                ·
                  refine ca_vreturn h hR dX12_readRelation_203 ?_
                  have el := l_rel_e (q := q) (n := n) (by rw [e01]; exact c_9)
                  have el5 : l_r5 (q, n) = T5 := by rw [hT5, hL4, l_r5_e]
                  refine ⟨rfl, rfl, p6, rfl, by rw [el, el5]; exact hX6, hgg, fun z => ?_⟩
                  rw [el, el5] at z
                  exact absurd z c_172
                · exact absurd c_172 (by rw [hT5, t_take_err (by rw [t_adv_f h40]; exact h40), t_adv_f h40]; exact h40)
              · exact absurd c_128 h30
            · exact absurd c_96 c_79
          ·
            refine ca_aload_nr h dX12_readRelation_82 rfl ?_
            refine ca_vi h hG ml_X12_339 (c_X12_value hs (q := QX) (by rw [up_s]; exact hX2)) (ci := 12) rfl rfl rfl (hs.1 _ _ _ ⟨rfl, rfl⟩) rfl rfl rfl rfl ⟨Nat.le_refl _, Nat.le_refl _⟩ rfl dX12_readRelation_83 ?_
            obtain ⟨g1, g2⟩ := r_q1_k (q := T1.2) (by rw [← hQX]; exact c_79)
            have hk2 : QX 12 0 7 = 2 := by rw [hQX, g2]; exact g1
            obtain ⟨b, hb31, eb⟩ := r_num_n hX2 hk2
            have hok := l_r3_ok hT1 hQX hX2 hcc hc0 c_79 hb31 eb
            rw [if_pos hk2, eb]
            refine ca_goto (tgt := 90) h dX12_readRelation_86 (by decide) ?_
            refine ca_istore_n h dX12_readRelation_90 rfl ?_
            refine ca_aload_nr h dX12_readRelation_91 rfl ?_
            refine ca_aload_nr h dX12_readRelation_92 rfl ?_
            refine gi_X12_301 h (hs.1 _ _ _ ⟨rfl, rfl⟩) dX12_readRelation_93 ?_
            refine ca_top (show _ = QX 12 0 1 by rw [up_s]; exact hX2.1.2.2.1) ?_
            refine ca_if_ne (tgt := 114) h dX12_readRelation_96 (by decide) (fun c_96 => ?_) (fun c_96 => ?_)
            · exact absurd c_79 c_96
            ·
              refine ca_iload_n h dX12_readRelation_99 rfl ?_
              refine ca_aload_nr h dX12_readRelation_100 rfl ?_
              refine gs_X12_13 h hs ⟨rfl, rfl⟩ dX12_readRelation_101 ?_
              refine ca_iconst h dX12_readRelation_104 ik_0 ?_
              refine ca_iald h rfl (hs.1 _ _ _ ⟨rfl, rfl⟩) (vp_in_nI (n := 0) (N := 1302) (by decide) (by decide)) dX12_readRelation_105 ?_
              refine ca_top (show _ = n 0 0 0 by rw [show Int32.toNatClampNeg 0 = 0 from rfl, up_s, hg2.1 24 (by decide), hD.1.1 0 (by decide)]) ?_
              refine ca_icmp_ge (tgt := 118) h dX12_readRelation_106 (by decide) (fun c_106 => ?_) (fun c_106 => ?_)
              ·
                refine ca_iconst h dX12_readRelation_118 ik_0 ?_
                have e52 : r_chk QX 0 2 = L3 := by rw [r_chk_0, hL3]; exact (hok.2 c_106).symm
                have h30 : ¬ L3 12 0 1 = 0 := by rw [hL3, hok.2 c_106]; exact t_fail_ne (by decide)
                refine ca_iconst h dX12_readRelation_119 ik_2 ?_
                refine ca_vXv h hG ml_X12_328 (c_X12_check hs (q := QX) (by rw [up_s]; exact hX2)) (ci := 12) rfl rfl rfl (hs.1 _ _ _ ⟨rfl, rfl⟩) rfl rfl rfl rfl ⟨Nat.le_refl _, Nat.le_refl _⟩ rfl dX12_readRelation_120 ?_
                intro μ9 hμ9
                obtain ⟨p3, rfl, hX3, hf3⟩ := hμ9
                rw [e52] at hX3
                rw [up_up]
                rw [up_s] at hf3
                have hg3 := r_tf_tr hg2 hf3
                refine ca_aload_nr h dX12_readRelation_123 rfl ?_
                refine ca_aload_nr h dX12_readRelation_124 rfl ?_
                refine gi_X12_301 h (hs.1 _ _ _ ⟨rfl, rfl⟩) dX12_readRelation_125 ?_
                refine ca_top (show _ = L3 12 0 1 by rw [up_s]; exact hX3.1.2.2.1) ?_
                refine ca_if_ne (tgt := 145) h dX12_readRelation_128 (by decide) (fun c_128 => ?_) (fun c_128 => ?_)
                ·
                  refine ca_iconst h dX12_readRelation_145 ik_1 ?_
                  refine ca_goto (tgt := 150) h dX12_readRelation_146 (by decide) ?_
                  have e150 : r_chk L3 1 4 = L4 := by rw [r_chk_1, hL4]; exact (l_r4_err hL3 h30).symm
                  have h40 : ¬ L4 12 0 1 = 0 := by rw [hL4, l_r4_err hL3 h30]; exact h30
                  refine ca_iconst h dX12_readRelation_150 ik_4 ?_
                  refine ca_vXv h hG ml_X12_328 (c_X12_check hs (q := L3) (by rw [up_s]; exact hX3)) (ci := 12) rfl rfl rfl (hs.1 _ _ _ ⟨rfl, rfl⟩) rfl rfl rfl rfl ⟨Nat.le_refl _, Nat.le_refl _⟩ rfl dX12_readRelation_151 ?_
                  intro μ9 hμ9
                  obtain ⟨p4, rfl, hX4, hf4⟩ := hμ9
                  rw [e150] at hX4
                  rw [up_up]
                  rw [up_s] at hf4
                  have hg4 := r_tf_tr hg3 hf4
                  refine ca_aload_nr h dX12_readRelation_154 rfl ?_
                  refine ca_vXv h hG ml_X12_332 (c_X12_advance hs (q := L4) (by rw [up_s]; exact hX4)) (ci := 12) rfl rfl rfl (hs.1 _ _ _ ⟨rfl, rfl⟩) rfl rfl rfl rfl ⟨Nat.le_refl _, Nat.le_refl _⟩ rfl dX12_readRelation_155 ?_
                  intro μ9 hμ9
                  obtain ⟨p5, rfl, hX5, hf5⟩ := hμ9
                  rw [up_up]
                  rw [up_s] at hf5
                  have hg5 := r_tf_tr hg4 hf5
                  refine ca_aload_nr h dX12_readRelation_158 rfl ?_
                  refine ca_iload_n h dX12_readRelation_159 rfl ?_
                  refine ca_iconst h dX12_readRelation_160 ik_2 ?_
                  refine ca_iadd h dX12_readRelation_161 ?_
                  refine ca_top (show _ = nI (90 + 5 * r + 2) by rw [show (2 : Int32) = nI 2 from rfl, nI_add]) ?_
                  refine ca_iconst h dX12_readRelation_162 ik_0 ?_
                  refine ca_bipush h dX12_readRelation_163 bk_30 ?_
                  refine ca_vXv h hG ml_X12_345 (c_X12_putNumber hs (q := t_adv L4) (by rw [up_s]; exact hX5) (pl := 90 + 5 * r + 2) (by omega) (by decide)) (ci := 12) rfl rfl rfl (hs.1 _ _ _ ⟨rfl, rfl⟩) rfl rfl rfl rfl ⟨Nat.le_refl _, Nat.le_refl _⟩ rfl dX12_readRelation_165 ?_
                  intro μ9 hμ9
                  obtain ⟨p6, rfl, hX6, hg6, hd6⟩ := hμ9
                  rw [up_up]
                  rw [up_s] at hg6 hd6
                  rw [← hT5] at hX6 hd6
                  have hgg := r_tg_tr (r_tg_tf hg5) hg6
                  refine ca_aload_nr h dX12_readRelation_168 rfl ?_
                  refine gi_X12_301 h (hs.1 _ _ _ ⟨rfl, rfl⟩) dX12_readRelation_169 ?_
                  refine ca_top (show _ = T5.2 12 0 1 by rw [up_s]; exact hX6.1.2.2.1) ?_
                  refine ca_if_ne (tgt := 203) h dX12_readRelation_172 (by decide) (fun c_172 => ?_) (fun c_172 => ?_)
                  ·
                    refine ca_vreturn h hR dX12_readRelation_203 ?_
                    have el := l_rel_e (q := q) (n := n) (by rw [e01]; exact c_9)
                    have el5 : l_r5 (q, n) = T5 := by rw [hT5, hL4, l_r5_e]
                    refine ⟨rfl, rfl, p6, rfl, by rw [el, el5]; exact hX6, hgg, fun z => ?_⟩
                    rw [el, el5] at z
                    exact absurd z c_172
                  · exact absurd c_172 (by rw [hT5, t_take_err (by rw [t_adv_f h40]; exact h40), t_adv_f h40]; exact h40)
                · exact absurd c_128 h30
              ·
                refine ca_iload_n h dX12_readRelation_109 rfl ?_
                refine ca_iload_n h dX12_readRelation_110 rfl ?_
                refine ca_icmp_eq (tgt := 118) h dX12_readRelation_111 (by decide) (fun c_111 => ?_) (fun c_111 => ?_)
                ·
                  refine ca_iconst h dX12_readRelation_118 ik_0 ?_
                  have e52 : r_chk QX 0 2 = L3 := by rw [r_chk_0, hL3, (hok.1 c_106).2, if_pos c_111]
                  have h30 : ¬ L3 12 0 1 = 0 := by rw [hL3, (hok.1 c_106).2, if_pos c_111]; exact t_fail_ne (by decide)
                  refine ca_iconst h dX12_readRelation_119 ik_2 ?_
                  refine ca_vXv h hG ml_X12_328 (c_X12_check hs (q := QX) (by rw [up_s]; exact hX2)) (ci := 12) rfl rfl rfl (hs.1 _ _ _ ⟨rfl, rfl⟩) rfl rfl rfl rfl ⟨Nat.le_refl _, Nat.le_refl _⟩ rfl dX12_readRelation_120 ?_
                  intro μ9 hμ9
                  obtain ⟨p3, rfl, hX3, hf3⟩ := hμ9
                  rw [e52] at hX3
                  rw [up_up]
                  rw [up_s] at hf3
                  have hg3 := r_tf_tr hg2 hf3
                  refine ca_aload_nr h dX12_readRelation_123 rfl ?_
                  refine ca_aload_nr h dX12_readRelation_124 rfl ?_
                  refine gi_X12_301 h (hs.1 _ _ _ ⟨rfl, rfl⟩) dX12_readRelation_125 ?_
                  refine ca_top (show _ = L3 12 0 1 by rw [up_s]; exact hX3.1.2.2.1) ?_
                  refine ca_if_ne (tgt := 145) h dX12_readRelation_128 (by decide) (fun c_128 => ?_) (fun c_128 => ?_)
                  ·
                    refine ca_iconst h dX12_readRelation_145 ik_1 ?_
                    refine ca_goto (tgt := 150) h dX12_readRelation_146 (by decide) ?_
                    have e150 : r_chk L3 1 4 = L4 := by rw [r_chk_1, hL4]; exact (l_r4_err hL3 h30).symm
                    have h40 : ¬ L4 12 0 1 = 0 := by rw [hL4, l_r4_err hL3 h30]; exact h30
                    refine ca_iconst h dX12_readRelation_150 ik_4 ?_
                    refine ca_vXv h hG ml_X12_328 (c_X12_check hs (q := L3) (by rw [up_s]; exact hX3)) (ci := 12) rfl rfl rfl (hs.1 _ _ _ ⟨rfl, rfl⟩) rfl rfl rfl rfl ⟨Nat.le_refl _, Nat.le_refl _⟩ rfl dX12_readRelation_151 ?_
                    intro μ9 hμ9
                    obtain ⟨p4, rfl, hX4, hf4⟩ := hμ9
                    rw [e150] at hX4
                    rw [up_up]
                    rw [up_s] at hf4
                    have hg4 := r_tf_tr hg3 hf4
                    refine ca_aload_nr h dX12_readRelation_154 rfl ?_
                    refine ca_vXv h hG ml_X12_332 (c_X12_advance hs (q := L4) (by rw [up_s]; exact hX4)) (ci := 12) rfl rfl rfl (hs.1 _ _ _ ⟨rfl, rfl⟩) rfl rfl rfl rfl ⟨Nat.le_refl _, Nat.le_refl _⟩ rfl dX12_readRelation_155 ?_
                    intro μ9 hμ9
                    obtain ⟨p5, rfl, hX5, hf5⟩ := hμ9
                    rw [up_up]
                    rw [up_s] at hf5
                    have hg5 := r_tf_tr hg4 hf5
                    refine ca_aload_nr h dX12_readRelation_158 rfl ?_
                    refine ca_iload_n h dX12_readRelation_159 rfl ?_
                    refine ca_iconst h dX12_readRelation_160 ik_2 ?_
                    refine ca_iadd h dX12_readRelation_161 ?_
                    refine ca_top (show _ = nI (90 + 5 * r + 2) by rw [show (2 : Int32) = nI 2 from rfl, nI_add]) ?_
                    refine ca_iconst h dX12_readRelation_162 ik_0 ?_
                    refine ca_bipush h dX12_readRelation_163 bk_30 ?_
                    refine ca_vXv h hG ml_X12_345 (c_X12_putNumber hs (q := t_adv L4) (by rw [up_s]; exact hX5) (pl := 90 + 5 * r + 2) (by omega) (by decide)) (ci := 12) rfl rfl rfl (hs.1 _ _ _ ⟨rfl, rfl⟩) rfl rfl rfl rfl ⟨Nat.le_refl _, Nat.le_refl _⟩ rfl dX12_readRelation_165 ?_
                    intro μ9 hμ9
                    obtain ⟨p6, rfl, hX6, hg6, hd6⟩ := hμ9
                    rw [up_up]
                    rw [up_s] at hg6 hd6
                    rw [← hT5] at hX6 hd6
                    have hgg := r_tg_tr (r_tg_tf hg5) hg6
                    refine ca_aload_nr h dX12_readRelation_168 rfl ?_
                    refine gi_X12_301 h (hs.1 _ _ _ ⟨rfl, rfl⟩) dX12_readRelation_169 ?_
                    refine ca_top (show _ = T5.2 12 0 1 by rw [up_s]; exact hX6.1.2.2.1) ?_
                    refine ca_if_ne (tgt := 203) h dX12_readRelation_172 (by decide) (fun c_172 => ?_) (fun c_172 => ?_)
                    ·
                      refine ca_vreturn h hR dX12_readRelation_203 ?_
                      have el := l_rel_e (q := q) (n := n) (by rw [e01]; exact c_9)
                      have el5 : l_r5 (q, n) = T5 := by rw [hT5, hL4, l_r5_e]
                      refine ⟨rfl, rfl, p6, rfl, by rw [el, el5]; exact hX6, hgg, fun z => ?_⟩
                      rw [el, el5] at z
                      exact absurd z c_172
                    · exact absurd c_172 (by rw [hT5, t_take_err (by rw [t_adv_f h40]; exact h40), t_adv_f h40]; exact h40)
                  · exact absurd c_128 h30
                ·
                  refine ca_iconst h dX12_readRelation_114 ik_1 ?_
                  refine ca_goto (tgt := 119) h dX12_readRelation_115 (by decide) ?_
                  have e52 : r_chk QX 1 2 = L3 := by rw [r_chk_1, hL3, (hok.1 c_106).2, if_neg c_111]
                  have h30 : L3 12 0 1 = 0 := by rw [hL3, (hok.1 c_106).2, if_neg c_111]; exact c_96
                  refine ca_iconst h dX12_readRelation_119 ik_2 ?_
                  refine ca_vXv h hG ml_X12_328 (c_X12_check hs (q := QX) (by rw [up_s]; exact hX2)) (ci := 12) rfl rfl rfl (hs.1 _ _ _ ⟨rfl, rfl⟩) rfl rfl rfl rfl ⟨Nat.le_refl _, Nat.le_refl _⟩ rfl dX12_readRelation_120 ?_
                  intro μ9 hμ9
                  obtain ⟨p3, rfl, hX3, hf3⟩ := hμ9
                  rw [e52] at hX3
                  rw [up_up]
                  rw [up_s] at hf3
                  have hg3 := r_tf_tr hg2 hf3
                  refine ca_aload_nr h dX12_readRelation_123 rfl ?_
                  refine ca_aload_nr h dX12_readRelation_124 rfl ?_
                  refine gi_X12_301 h (hs.1 _ _ _ ⟨rfl, rfl⟩) dX12_readRelation_125 ?_
                  refine ca_top (show _ = L3 12 0 1 by rw [up_s]; exact hX3.1.2.2.1) ?_
                  refine ca_if_ne (tgt := 145) h dX12_readRelation_128 (by decide) (fun c_128 => ?_) (fun c_128 => ?_)
                  · exact absurd h30 c_128
                  ·
                    obtain ⟨z0, l0, u0⟩ := t_take_in (q := t_adv q) (p := p0) (lo := 0) (hi := n 0 0 0 - 1) hX0 (by rw [← l_r1_e, ← hT1, ← (r_q1_k (q := T1.2) (by rw [← hQX]; exact c_96)).2, ← hQX]; exact c_96)
                    rw [← l_r1_e, ← hT1] at l0 u0
                    obtain ⟨a, ha31, ea⟩ := nI_of l0
                    have haC : nI a < n 0 0 0 := (l_hi hcc hc0 ha31).mp (by rw [← ea]; exact ⟨l0, u0⟩)
                    have e0c : n 0 0 0 = nI (k_cc n) := (nI_cn hc0).symm
                    have hac : a < k_cc n := (nI_ltI ha31 (by omega)).mp (by rw [← e0c]; exact haC)
                    have hbc : b < k_cc n := (nI_ltI hb31 (by omega)).mp (by rw [← e0c]; exact c_106)
                    have ha8 : a < 8 := by omega
                    have hb8 : b < 8 := by omega
                    have hNd : r_N n (μ 16 24 0) := hD.1
                    refine ca_aload_nr h dX12_readRelation_131 rfl ?_
                    refine ca_aload_nr h dX12_readRelation_132 rfl ?_
                    refine gs_X12_13 h hs ⟨rfl, rfl⟩ dX12_readRelation_133 ?_
                    refine ca_iload_n h dX12_readRelation_136 rfl ?_
                    refine ca_iload_n h dX12_readRelation_137 rfl ?_
                    refine ca_vi h hG ml_X12_81 (c_X12_relationOfD hs (by rw [up_s, hg3.1 24 (by decide)]; exact hD.1.2.2.2.1.1.2)) (ci := 12) rfl rfl rfl (hs.1 _ _ _ ⟨rfl, rfl⟩) rfl rfl rfl rfl ⟨Nat.le_refl _, Nat.le_refl _⟩ rfl dX12_readRelation_138 ?_
                    rw [show up μ 16 p3 16 24 0 = μ 16 24 0 by rw [up_s, hg3.1 24 (by decide)], ea]
                    refine ca_iconst h dX12_readRelation_141 ik_m1 ?_
                    refine ca_icmp_ne (tgt := 149) h dX12_readRelation_142 (by decide) (fun c_142 => ?_) (fun c_142 => ?_)
                    ·
                      refine ca_iconst h dX12_readRelation_149 ik_0 ?_
                      have hz : ¬ n 2 (8 * a + b) 0 = 0 := fun z => c_142 ((r_nb hNd ha8 hb8).mpr z)
                      have el4 : L4 = t_fail L3 4 := by rw [hL4, l_r4_e, (hok.1 c_106).1, ← hT1, ea, r_rx ha8 hb8, if_neg hz, ← hL3]
                      have e150 : r_chk L3 0 4 = L4 := by rw [r_chk_0]; exact el4.symm
                      have h40 : ¬ L4 12 0 1 = 0 := by rw [el4]; exact t_fail_ne (by decide)
                      refine ca_iconst h dX12_readRelation_150 ik_4 ?_
                      refine ca_vXv h hG ml_X12_328 (c_X12_check hs (q := L3) (by rw [up_s]; exact hX3)) (ci := 12) rfl rfl rfl (hs.1 _ _ _ ⟨rfl, rfl⟩) rfl rfl rfl rfl ⟨Nat.le_refl _, Nat.le_refl _⟩ rfl dX12_readRelation_151 ?_
                      intro μ9 hμ9
                      obtain ⟨p4, rfl, hX4, hf4⟩ := hμ9
                      rw [e150] at hX4
                      rw [up_up]
                      rw [up_s] at hf4
                      have hg4 := r_tf_tr hg3 hf4
                      refine ca_aload_nr h dX12_readRelation_154 rfl ?_
                      refine ca_vXv h hG ml_X12_332 (c_X12_advance hs (q := L4) (by rw [up_s]; exact hX4)) (ci := 12) rfl rfl rfl (hs.1 _ _ _ ⟨rfl, rfl⟩) rfl rfl rfl rfl ⟨Nat.le_refl _, Nat.le_refl _⟩ rfl dX12_readRelation_155 ?_
                      intro μ9 hμ9
                      obtain ⟨p5, rfl, hX5, hf5⟩ := hμ9
                      rw [up_up]
                      rw [up_s] at hf5
                      have hg5 := r_tf_tr hg4 hf5
                      refine ca_aload_nr h dX12_readRelation_158 rfl ?_
                      refine ca_iload_n h dX12_readRelation_159 rfl ?_
                      refine ca_iconst h dX12_readRelation_160 ik_2 ?_
                      refine ca_iadd h dX12_readRelation_161 ?_
                      refine ca_top (show _ = nI (90 + 5 * r + 2) by rw [show (2 : Int32) = nI 2 from rfl, nI_add]) ?_
                      refine ca_iconst h dX12_readRelation_162 ik_0 ?_
                      refine ca_bipush h dX12_readRelation_163 bk_30 ?_
                      refine ca_vXv h hG ml_X12_345 (c_X12_putNumber hs (q := t_adv L4) (by rw [up_s]; exact hX5) (pl := 90 + 5 * r + 2) (by omega) (by decide)) (ci := 12) rfl rfl rfl (hs.1 _ _ _ ⟨rfl, rfl⟩) rfl rfl rfl rfl ⟨Nat.le_refl _, Nat.le_refl _⟩ rfl dX12_readRelation_165 ?_
                      intro μ9 hμ9
                      obtain ⟨p6, rfl, hX6, hg6, hd6⟩ := hμ9
                      rw [up_up]
                      rw [up_s] at hg6 hd6
                      rw [← hT5] at hX6 hd6
                      have hgg := r_tg_tr (r_tg_tf hg5) hg6
                      refine ca_aload_nr h dX12_readRelation_168 rfl ?_
                      refine gi_X12_301 h (hs.1 _ _ _ ⟨rfl, rfl⟩) dX12_readRelation_169 ?_
                      refine ca_top (show _ = T5.2 12 0 1 by rw [up_s]; exact hX6.1.2.2.1) ?_
                      refine ca_if_ne (tgt := 203) h dX12_readRelation_172 (by decide) (fun c_172 => ?_) (fun c_172 => ?_)
                      ·
                        refine ca_vreturn h hR dX12_readRelation_203 ?_
                        have el := l_rel_e (q := q) (n := n) (by rw [e01]; exact c_9)
                        have el5 : l_r5 (q, n) = T5 := by rw [hT5, hL4, l_r5_e]
                        refine ⟨rfl, rfl, p6, rfl, by rw [el, el5]; exact hX6, hgg, fun z => ?_⟩
                        rw [el, el5] at z
                        exact absurd z c_172
                      · exact absurd c_172 (by rw [hT5, t_take_err (by rw [t_adv_f h40]; exact h40), t_adv_f h40]; exact h40)
                    ·
                      refine ca_iconst h dX12_readRelation_145 ik_1 ?_
                      refine ca_goto (tgt := 150) h dX12_readRelation_146 (by decide) ?_
                      have hz : n 2 (8 * a + b) 0 = 0 := (r_nb hNd ha8 hb8).mp c_142
                      have el4 : L4 = L3 := by rw [hL4, l_r4_e, (hok.1 c_106).1, ← hT1, ea, r_rx ha8 hb8, if_pos hz, ← hL3]
                      have e150 : r_chk L3 1 4 = L4 := by rw [r_chk_1]; exact el4.symm
                      refine ca_iconst h dX12_readRelation_150 ik_4 ?_
                      refine ca_vXv h hG ml_X12_328 (c_X12_check hs (q := L3) (by rw [up_s]; exact hX3)) (ci := 12) rfl rfl rfl (hs.1 _ _ _ ⟨rfl, rfl⟩) rfl rfl rfl rfl ⟨Nat.le_refl _, Nat.le_refl _⟩ rfl dX12_readRelation_151 ?_
                      intro μ9 hμ9
                      obtain ⟨p4, rfl, hX4, hf4⟩ := hμ9
                      rw [e150] at hX4
                      rw [up_up]
                      rw [up_s] at hf4
                      have hg4 := r_tf_tr hg3 hf4
                      refine ca_aload_nr h dX12_readRelation_154 rfl ?_
                      refine ca_vXv h hG ml_X12_332 (c_X12_advance hs (q := L4) (by rw [up_s]; exact hX4)) (ci := 12) rfl rfl rfl (hs.1 _ _ _ ⟨rfl, rfl⟩) rfl rfl rfl rfl ⟨Nat.le_refl _, Nat.le_refl _⟩ rfl dX12_readRelation_155 ?_
                      intro μ9 hμ9
                      obtain ⟨p5, rfl, hX5, hf5⟩ := hμ9
                      rw [up_up]
                      rw [up_s] at hf5
                      have hg5 := r_tf_tr hg4 hf5
                      refine ca_aload_nr h dX12_readRelation_158 rfl ?_
                      refine ca_iload_n h dX12_readRelation_159 rfl ?_
                      refine ca_iconst h dX12_readRelation_160 ik_2 ?_
                      refine ca_iadd h dX12_readRelation_161 ?_
                      refine ca_top (show _ = nI (90 + 5 * r + 2) by rw [show (2 : Int32) = nI 2 from rfl, nI_add]) ?_
                      refine ca_iconst h dX12_readRelation_162 ik_0 ?_
                      refine ca_bipush h dX12_readRelation_163 bk_30 ?_
                      refine ca_vXv h hG ml_X12_345 (c_X12_putNumber hs (q := t_adv L4) (by rw [up_s]; exact hX5) (pl := 90 + 5 * r + 2) (by omega) (by decide)) (ci := 12) rfl rfl rfl (hs.1 _ _ _ ⟨rfl, rfl⟩) rfl rfl rfl rfl ⟨Nat.le_refl _, Nat.le_refl _⟩ rfl dX12_readRelation_165 ?_
                      intro μ9 hμ9
                      obtain ⟨p6, rfl, hX6, hg6, hd6⟩ := hμ9
                      rw [up_up]
                      rw [up_s] at hg6 hd6
                      rw [← hT5] at hX6 hd6
                      have hgg := r_tg_tr (r_tg_tf hg5) hg6
                      refine ca_aload_nr h dX12_readRelation_168 rfl ?_
                      refine gi_X12_301 h (hs.1 _ _ _ ⟨rfl, rfl⟩) dX12_readRelation_169 ?_
                      refine ca_top (show _ = T5.2 12 0 1 by rw [up_s]; exact hX6.1.2.2.1) ?_
                      refine ca_if_ne (tgt := 203) h dX12_readRelation_172 (by decide) (fun c_172 => ?_) (fun c_172 => ?_)
                      ·
                        refine ca_vreturn h hR dX12_readRelation_203 ?_
                        have el := l_rel_e (q := q) (n := n) (by rw [e01]; exact c_9)
                        have el5 : l_r5 (q, n) = T5 := by rw [hT5, hL4, l_r5_e]
                        refine ⟨rfl, rfl, p6, rfl, by rw [el, el5]; exact hX6, hgg, fun z => ?_⟩
                        rw [el, el5] at z
                        exact absurd z c_172
                      ·
                        refine ca_aload_nr h dX12_readRelation_175 rfl ?_
                        refine gs_X12_13 h hs ⟨rfl, rfl⟩ dX12_readRelation_176 ?_
                        refine ca_iload_n h dX12_readRelation_179 rfl ?_
                        refine ca_iconst h dX12_readRelation_180 ik_0 ?_
                        refine ca_iadd h dX12_readRelation_181 ?_
                        refine ca_top (show _ = nI (90 + 5 * r) by rw [Int32.add_zero]) ?_
                        refine ca_iload_n h dX12_readRelation_182 rfl ?_
                        refine ca_iast h rfl (hs.1 _ _ _ ⟨rfl, rfl⟩) (vp_in_nI (by omega) (by decide)) dX12_readRelation_183 ?_
                        refine ca_aload_nr h dX12_readRelation_184 rfl ?_
                        refine gs_X12_13 h hs ⟨rfl, rfl⟩ dX12_readRelation_185 ?_
                        refine ca_iload_n h dX12_readRelation_188 rfl ?_
                        refine ca_iconst h dX12_readRelation_189 ik_1 ?_
                        refine ca_iadd h dX12_readRelation_190 ?_
                        refine ca_top (show _ = nI (90 + 5 * r + 1) by rw [nI_1]) ?_
                        refine ca_iload_n h dX12_readRelation_191 rfl ?_
                        refine ca_iast h rfl (hs.1 _ _ _ ⟨rfl, rfl⟩) (vp_in_nI (by omega) (by decide)) dX12_readRelation_192 ?_
                        refine ca_aload_nr h dX12_readRelation_193 rfl ?_
                        refine gs_X12_13 h hs ⟨rfl, rfl⟩ dX12_readRelation_194 ?_
                        refine ca_iconst h dX12_readRelation_197 ik_1 ?_
                        refine ca_dup2 h dX12_readRelation_198 rfl rfl ?_
                        refine ca_iald h rfl (hs.1 _ _ _ ⟨rfl, rfl⟩) (vp_in_nI (n := 1) (N := 1302) (by decide) (by decide)) dX12_readRelation_199 ?_
                        refine ca_iconst h dX12_readRelation_200 ik_1 ?_
                        refine ca_iadd h dX12_readRelation_201 ?_
                        refine ca_iast h rfl (hs.1 _ _ _ ⟨rfl, rfl⟩) (vp_in_nI (n := 1) (N := 1302) (by decide) (by decide)) dX12_readRelation_202 ?_
                        refine ca_vreturn h hR dX12_readRelation_203 ?_
                        have el := l_rel_e (q := q) (n := n) (by rw [e01]; exact c_9)
                        have el5 : l_r5 (q, n) = T5 := by rw [hT5, hL4, l_r5_e]
                        rw [el5, (hok.1 c_106).1, ← hT1, ea, r_rx ha8 hb8, e01, nI_1] at el
                        rw [r_dn_0 c_172] at hd6
                        have hd60 : p6 24 0 = up (μ 16 24 0) (90 + 5 * r + 2) T5.1 := by rw [hd6, hg5.1 24 (by decide)]
                        refine ⟨rfl, rfl, _, by simp only [ch_st_nw, up_s, up_up]; rfl, by rw [el]; exact r_X1_24 (r_X1_24 (r_X1_24 hX6)), r_tg_tr (r_tg_tr (r_tg_tr hgg r_tg_24) r_tg_24) r_tg_24, fun z => ?_⟩
                        rw [el]
                        show r_D (nw (nw (nw n 2 (8 * a + b) 1 T5.1) 2 (8 * a + b) 0 1) 0 0 1 (nI (r + 1))) _
                        refine r_D_rel hD hac hbc hr hr24 hz rfl (fun j => ?_)
                        simp only [nw_24]
                        rw [hd60, nI_clamp (show 90 + 5 * r < 2 ^ 31 by omega), nI_clamp (show 90 + 5 * r + 1 < 2 ^ 31 by omega), show Int32.toNatClampNeg 1 = 1 from rfl]
                        simp only [up_ap]
                        have e1 : (if (1 : Nat) = 90 + 5 * r + 1 then nI b else if 1 = 90 + 5 * r then nI a else if 1 = 90 + 5 * r + 2 then T5.1 else μ 16 24 0 1) + 1 = nI (r + 1) := by
                          rw [if_neg (by omega), if_neg (by omega), if_neg (by omega), hD.1.1 1 (by decide), e01, nI_1]
                        by_cases h1 : j = 1
                        · rw [if_pos h1, if_pos h1]; first | exact e1 | (rw [if_neg (by omega), if_neg (by omega), if_neg (by omega), hD.1.1 1 (by decide), e01, nI_1])
                        · rw [if_neg h1, if_neg h1]
                          by_cases h2 : j = 90 + 5 * r + 1
                          · rw [if_pos h2, if_neg (by omega), if_pos h2]
                          · rw [if_neg h2]
                            by_cases h3 : j = 90 + 5 * r
                            · rw [if_pos h3, if_pos h3]
                            · rw [if_neg h3, if_neg h3, if_neg h2]
        ·
          refine ca_iconst h dX12_readRelation_66 ik_1 ?_
          refine ca_goto (tgt := 71) h dX12_readRelation_67 (by decide) ?_
          have e21 : r_chk T1.2 1 1 = r_q1 T1.2 := by have := r_q1_c _ _ hX1; rw [if_neg (fun z => z c_55), if_pos c_63] at this; exact this
          refine ca_iconst h dX12_readRelation_71 ik_1 ?_
          refine ca_vXv h hG ml_X12_328 (c_X12_check hs (q := T1.2) (by rw [up_s]; exact hX1)) (ci := 12) rfl rfl rfl (hs.1 _ _ _ ⟨rfl, rfl⟩) rfl rfl rfl rfl ⟨Nat.le_refl _, Nat.le_refl _⟩ rfl dX12_readRelation_72 ?_
          intro μ9 hμ9
          obtain ⟨p2, rfl, hX2, hf2⟩ := hμ9
          rw [e21] at hX2
          obtain ⟨QX, hQX⟩ : ∃ z, z = r_q1 T1.2 := ⟨_, rfl⟩
          rw [← hQX] at hX2
          rw [up_up]
          rw [up_s] at hf2
          have hg2 := r_tf_tr hg1 hf2
          refine ca_aload_nr h dX12_readRelation_75 rfl ?_
          refine gi_X12_301 h (hs.1 _ _ _ ⟨rfl, rfl⟩) dX12_readRelation_76 ?_
          refine ca_top (show _ = QX 12 0 1 by rw [up_s]; exact hX2.1.2.2.1) ?_
          refine ca_if_ne (tgt := 89) h dX12_readRelation_79 (by decide) (fun c_79 => ?_) (fun c_79 => ?_)
          ·
            refine ca_iconst h dX12_readRelation_89 ik_m1 ?_
            refine ca_istore_n h dX12_readRelation_90 rfl ?_
            refine ca_aload_nr h dX12_readRelation_91 rfl ?_
            refine ca_aload_nr h dX12_readRelation_92 rfl ?_
            refine gi_X12_301 h (hs.1 _ _ _ ⟨rfl, rfl⟩) dX12_readRelation_93 ?_
            refine ca_top (show _ = QX 12 0 1 by rw [up_s]; exact hX2.1.2.2.1) ?_
            refine ca_if_ne (tgt := 114) h dX12_readRelation_96 (by decide) (fun c_96 => ?_) (fun c_96 => ?_)
            ·
              refine ca_iconst h dX12_readRelation_114 ik_1 ?_
              refine ca_goto (tgt := 119) h dX12_readRelation_115 (by decide) ?_
              have e52 : r_chk QX 1 2 = L3 := by rw [r_chk_1, hL3]; exact (l_r3_err hT1 hQX c_96).symm
              have h30 : ¬ L3 12 0 1 = 0 := by rw [hL3, l_r3_err hT1 hQX c_96]; exact c_96
              refine ca_iconst h dX12_readRelation_119 ik_2 ?_
              refine ca_vXv h hG ml_X12_328 (c_X12_check hs (q := QX) (by rw [up_s]; exact hX2)) (ci := 12) rfl rfl rfl (hs.1 _ _ _ ⟨rfl, rfl⟩) rfl rfl rfl rfl ⟨Nat.le_refl _, Nat.le_refl _⟩ rfl dX12_readRelation_120 ?_
              intro μ9 hμ9
              obtain ⟨p3, rfl, hX3, hf3⟩ := hμ9
              rw [e52] at hX3
              rw [up_up]
              rw [up_s] at hf3
              have hg3 := r_tf_tr hg2 hf3
              refine ca_aload_nr h dX12_readRelation_123 rfl ?_
              refine ca_aload_nr h dX12_readRelation_124 rfl ?_
              refine gi_X12_301 h (hs.1 _ _ _ ⟨rfl, rfl⟩) dX12_readRelation_125 ?_
              refine ca_top (show _ = L3 12 0 1 by rw [up_s]; exact hX3.1.2.2.1) ?_
              refine ca_if_ne (tgt := 145) h dX12_readRelation_128 (by decide) (fun c_128 => ?_) (fun c_128 => ?_)
              ·
                refine ca_iconst h dX12_readRelation_145 ik_1 ?_
                refine ca_goto (tgt := 150) h dX12_readRelation_146 (by decide) ?_
                have e150 : r_chk L3 1 4 = L4 := by rw [r_chk_1, hL4]; exact (l_r4_err hL3 h30).symm
                have h40 : ¬ L4 12 0 1 = 0 := by rw [hL4, l_r4_err hL3 h30]; exact h30
                refine ca_iconst h dX12_readRelation_150 ik_4 ?_
                refine ca_vXv h hG ml_X12_328 (c_X12_check hs (q := L3) (by rw [up_s]; exact hX3)) (ci := 12) rfl rfl rfl (hs.1 _ _ _ ⟨rfl, rfl⟩) rfl rfl rfl rfl ⟨Nat.le_refl _, Nat.le_refl _⟩ rfl dX12_readRelation_151 ?_
                intro μ9 hμ9
                obtain ⟨p4, rfl, hX4, hf4⟩ := hμ9
                rw [e150] at hX4
                rw [up_up]
                rw [up_s] at hf4
                have hg4 := r_tf_tr hg3 hf4
                refine ca_aload_nr h dX12_readRelation_154 rfl ?_
                refine ca_vXv h hG ml_X12_332 (c_X12_advance hs (q := L4) (by rw [up_s]; exact hX4)) (ci := 12) rfl rfl rfl (hs.1 _ _ _ ⟨rfl, rfl⟩) rfl rfl rfl rfl ⟨Nat.le_refl _, Nat.le_refl _⟩ rfl dX12_readRelation_155 ?_
                intro μ9 hμ9
                obtain ⟨p5, rfl, hX5, hf5⟩ := hμ9
                rw [up_up]
                rw [up_s] at hf5
                have hg5 := r_tf_tr hg4 hf5
                refine ca_aload_nr h dX12_readRelation_158 rfl ?_
                refine ca_iload_n h dX12_readRelation_159 rfl ?_
                refine ca_iconst h dX12_readRelation_160 ik_2 ?_
                refine ca_iadd h dX12_readRelation_161 ?_
                refine ca_top (show _ = nI (90 + 5 * r + 2) by rw [show (2 : Int32) = nI 2 from rfl, nI_add]) ?_
                refine ca_iconst h dX12_readRelation_162 ik_0 ?_
                refine ca_bipush h dX12_readRelation_163 bk_30 ?_
                refine ca_vXv h hG ml_X12_345 (c_X12_putNumber hs (q := t_adv L4) (by rw [up_s]; exact hX5) (pl := 90 + 5 * r + 2) (by omega) (by decide)) (ci := 12) rfl rfl rfl (hs.1 _ _ _ ⟨rfl, rfl⟩) rfl rfl rfl rfl ⟨Nat.le_refl _, Nat.le_refl _⟩ rfl dX12_readRelation_165 ?_
                intro μ9 hμ9
                obtain ⟨p6, rfl, hX6, hg6, hd6⟩ := hμ9
                rw [up_up]
                rw [up_s] at hg6 hd6
                rw [← hT5] at hX6 hd6
                have hgg := r_tg_tr (r_tg_tf hg5) hg6
                refine ca_aload_nr h dX12_readRelation_168 rfl ?_
                refine gi_X12_301 h (hs.1 _ _ _ ⟨rfl, rfl⟩) dX12_readRelation_169 ?_
                refine ca_top (show _ = T5.2 12 0 1 by rw [up_s]; exact hX6.1.2.2.1) ?_
                refine ca_if_ne (tgt := 203) h dX12_readRelation_172 (by decide) (fun c_172 => ?_) (fun c_172 => ?_)
                ·
                  refine ca_vreturn h hR dX12_readRelation_203 ?_
                  have el := l_rel_e (q := q) (n := n) (by rw [e01]; exact c_9)
                  have el5 : l_r5 (q, n) = T5 := by rw [hT5, hL4, l_r5_e]
                  refine ⟨rfl, rfl, p6, rfl, by rw [el, el5]; exact hX6, hgg, fun z => ?_⟩
                  rw [el, el5] at z
                  exact absurd z c_172
                · exact absurd c_172 (by rw [hT5, t_take_err (by rw [t_adv_f h40]; exact h40), t_adv_f h40]; exact h40)
              · exact absurd c_128 h30
            · exact absurd c_96 c_79
          ·
            refine ca_aload_nr h dX12_readRelation_82 rfl ?_
            refine ca_vi h hG ml_X12_339 (c_X12_value hs (q := QX) (by rw [up_s]; exact hX2)) (ci := 12) rfl rfl rfl (hs.1 _ _ _ ⟨rfl, rfl⟩) rfl rfl rfl rfl ⟨Nat.le_refl _, Nat.le_refl _⟩ rfl dX12_readRelation_83 ?_
            obtain ⟨g1, g2⟩ := r_q1_k (q := T1.2) (by rw [← hQX]; exact c_79)
            have hk2 : QX 12 0 7 = 2 := by rw [hQX, g2]; exact g1
            obtain ⟨b, hb31, eb⟩ := r_num_n hX2 hk2
            have hok := l_r3_ok hT1 hQX hX2 hcc hc0 c_79 hb31 eb
            rw [if_pos hk2, eb]
            refine ca_goto (tgt := 90) h dX12_readRelation_86 (by decide) ?_
            refine ca_istore_n h dX12_readRelation_90 rfl ?_
            refine ca_aload_nr h dX12_readRelation_91 rfl ?_
            refine ca_aload_nr h dX12_readRelation_92 rfl ?_
            refine gi_X12_301 h (hs.1 _ _ _ ⟨rfl, rfl⟩) dX12_readRelation_93 ?_
            refine ca_top (show _ = QX 12 0 1 by rw [up_s]; exact hX2.1.2.2.1) ?_
            refine ca_if_ne (tgt := 114) h dX12_readRelation_96 (by decide) (fun c_96 => ?_) (fun c_96 => ?_)
            · exact absurd c_79 c_96
            ·
              refine ca_iload_n h dX12_readRelation_99 rfl ?_
              refine ca_aload_nr h dX12_readRelation_100 rfl ?_
              refine gs_X12_13 h hs ⟨rfl, rfl⟩ dX12_readRelation_101 ?_
              refine ca_iconst h dX12_readRelation_104 ik_0 ?_
              refine ca_iald h rfl (hs.1 _ _ _ ⟨rfl, rfl⟩) (vp_in_nI (n := 0) (N := 1302) (by decide) (by decide)) dX12_readRelation_105 ?_
              refine ca_top (show _ = n 0 0 0 by rw [show Int32.toNatClampNeg 0 = 0 from rfl, up_s, hg2.1 24 (by decide), hD.1.1 0 (by decide)]) ?_
              refine ca_icmp_ge (tgt := 118) h dX12_readRelation_106 (by decide) (fun c_106 => ?_) (fun c_106 => ?_)
              ·
                refine ca_iconst h dX12_readRelation_118 ik_0 ?_
                have e52 : r_chk QX 0 2 = L3 := by rw [r_chk_0, hL3]; exact (hok.2 c_106).symm
                have h30 : ¬ L3 12 0 1 = 0 := by rw [hL3, hok.2 c_106]; exact t_fail_ne (by decide)
                refine ca_iconst h dX12_readRelation_119 ik_2 ?_
                refine ca_vXv h hG ml_X12_328 (c_X12_check hs (q := QX) (by rw [up_s]; exact hX2)) (ci := 12) rfl rfl rfl (hs.1 _ _ _ ⟨rfl, rfl⟩) rfl rfl rfl rfl ⟨Nat.le_refl _, Nat.le_refl _⟩ rfl dX12_readRelation_120 ?_
                intro μ9 hμ9
                obtain ⟨p3, rfl, hX3, hf3⟩ := hμ9
                rw [e52] at hX3
                rw [up_up]
                rw [up_s] at hf3
                have hg3 := r_tf_tr hg2 hf3
                refine ca_aload_nr h dX12_readRelation_123 rfl ?_
                refine ca_aload_nr h dX12_readRelation_124 rfl ?_
                refine gi_X12_301 h (hs.1 _ _ _ ⟨rfl, rfl⟩) dX12_readRelation_125 ?_
                refine ca_top (show _ = L3 12 0 1 by rw [up_s]; exact hX3.1.2.2.1) ?_
                refine ca_if_ne (tgt := 145) h dX12_readRelation_128 (by decide) (fun c_128 => ?_) (fun c_128 => ?_)
                ·
                  refine ca_iconst h dX12_readRelation_145 ik_1 ?_
                  refine ca_goto (tgt := 150) h dX12_readRelation_146 (by decide) ?_
                  have e150 : r_chk L3 1 4 = L4 := by rw [r_chk_1, hL4]; exact (l_r4_err hL3 h30).symm
                  have h40 : ¬ L4 12 0 1 = 0 := by rw [hL4, l_r4_err hL3 h30]; exact h30
                  refine ca_iconst h dX12_readRelation_150 ik_4 ?_
                  refine ca_vXv h hG ml_X12_328 (c_X12_check hs (q := L3) (by rw [up_s]; exact hX3)) (ci := 12) rfl rfl rfl (hs.1 _ _ _ ⟨rfl, rfl⟩) rfl rfl rfl rfl ⟨Nat.le_refl _, Nat.le_refl _⟩ rfl dX12_readRelation_151 ?_
                  intro μ9 hμ9
                  obtain ⟨p4, rfl, hX4, hf4⟩ := hμ9
                  rw [e150] at hX4
                  rw [up_up]
                  rw [up_s] at hf4
                  have hg4 := r_tf_tr hg3 hf4
                  refine ca_aload_nr h dX12_readRelation_154 rfl ?_
                  refine ca_vXv h hG ml_X12_332 (c_X12_advance hs (q := L4) (by rw [up_s]; exact hX4)) (ci := 12) rfl rfl rfl (hs.1 _ _ _ ⟨rfl, rfl⟩) rfl rfl rfl rfl ⟨Nat.le_refl _, Nat.le_refl _⟩ rfl dX12_readRelation_155 ?_
                  intro μ9 hμ9
                  obtain ⟨p5, rfl, hX5, hf5⟩ := hμ9
                  rw [up_up]
                  rw [up_s] at hf5
                  have hg5 := r_tf_tr hg4 hf5
                  refine ca_aload_nr h dX12_readRelation_158 rfl ?_
                  refine ca_iload_n h dX12_readRelation_159 rfl ?_
                  refine ca_iconst h dX12_readRelation_160 ik_2 ?_
                  refine ca_iadd h dX12_readRelation_161 ?_
                  refine ca_top (show _ = nI (90 + 5 * r + 2) by rw [show (2 : Int32) = nI 2 from rfl, nI_add]) ?_
                  refine ca_iconst h dX12_readRelation_162 ik_0 ?_
                  refine ca_bipush h dX12_readRelation_163 bk_30 ?_
                  refine ca_vXv h hG ml_X12_345 (c_X12_putNumber hs (q := t_adv L4) (by rw [up_s]; exact hX5) (pl := 90 + 5 * r + 2) (by omega) (by decide)) (ci := 12) rfl rfl rfl (hs.1 _ _ _ ⟨rfl, rfl⟩) rfl rfl rfl rfl ⟨Nat.le_refl _, Nat.le_refl _⟩ rfl dX12_readRelation_165 ?_
                  intro μ9 hμ9
                  obtain ⟨p6, rfl, hX6, hg6, hd6⟩ := hμ9
                  rw [up_up]
                  rw [up_s] at hg6 hd6
                  rw [← hT5] at hX6 hd6
                  have hgg := r_tg_tr (r_tg_tf hg5) hg6
                  refine ca_aload_nr h dX12_readRelation_168 rfl ?_
                  refine gi_X12_301 h (hs.1 _ _ _ ⟨rfl, rfl⟩) dX12_readRelation_169 ?_
                  refine ca_top (show _ = T5.2 12 0 1 by rw [up_s]; exact hX6.1.2.2.1) ?_
                  refine ca_if_ne (tgt := 203) h dX12_readRelation_172 (by decide) (fun c_172 => ?_) (fun c_172 => ?_)
                  ·
                    refine ca_vreturn h hR dX12_readRelation_203 ?_
                    have el := l_rel_e (q := q) (n := n) (by rw [e01]; exact c_9)
                    have el5 : l_r5 (q, n) = T5 := by rw [hT5, hL4, l_r5_e]
                    refine ⟨rfl, rfl, p6, rfl, by rw [el, el5]; exact hX6, hgg, fun z => ?_⟩
                    rw [el, el5] at z
                    exact absurd z c_172
                  · exact absurd c_172 (by rw [hT5, t_take_err (by rw [t_adv_f h40]; exact h40), t_adv_f h40]; exact h40)
                · exact absurd c_128 h30
              ·
                refine ca_iload_n h dX12_readRelation_109 rfl ?_
                refine ca_iload_n h dX12_readRelation_110 rfl ?_
                refine ca_icmp_eq (tgt := 118) h dX12_readRelation_111 (by decide) (fun c_111 => ?_) (fun c_111 => ?_)
                ·
                  refine ca_iconst h dX12_readRelation_118 ik_0 ?_
                  have e52 : r_chk QX 0 2 = L3 := by rw [r_chk_0, hL3, (hok.1 c_106).2, if_pos c_111]
                  have h30 : ¬ L3 12 0 1 = 0 := by rw [hL3, (hok.1 c_106).2, if_pos c_111]; exact t_fail_ne (by decide)
                  refine ca_iconst h dX12_readRelation_119 ik_2 ?_
                  refine ca_vXv h hG ml_X12_328 (c_X12_check hs (q := QX) (by rw [up_s]; exact hX2)) (ci := 12) rfl rfl rfl (hs.1 _ _ _ ⟨rfl, rfl⟩) rfl rfl rfl rfl ⟨Nat.le_refl _, Nat.le_refl _⟩ rfl dX12_readRelation_120 ?_
                  intro μ9 hμ9
                  obtain ⟨p3, rfl, hX3, hf3⟩ := hμ9
                  rw [e52] at hX3
                  rw [up_up]
                  rw [up_s] at hf3
                  have hg3 := r_tf_tr hg2 hf3
                  refine ca_aload_nr h dX12_readRelation_123 rfl ?_
                  refine ca_aload_nr h dX12_readRelation_124 rfl ?_
                  refine gi_X12_301 h (hs.1 _ _ _ ⟨rfl, rfl⟩) dX12_readRelation_125 ?_
                  refine ca_top (show _ = L3 12 0 1 by rw [up_s]; exact hX3.1.2.2.1) ?_
                  refine ca_if_ne (tgt := 145) h dX12_readRelation_128 (by decide) (fun c_128 => ?_) (fun c_128 => ?_)
                  ·
                    refine ca_iconst h dX12_readRelation_145 ik_1 ?_
                    refine ca_goto (tgt := 150) h dX12_readRelation_146 (by decide) ?_
                    have e150 : r_chk L3 1 4 = L4 := by rw [r_chk_1, hL4]; exact (l_r4_err hL3 h30).symm
                    have h40 : ¬ L4 12 0 1 = 0 := by rw [hL4, l_r4_err hL3 h30]; exact h30
                    refine ca_iconst h dX12_readRelation_150 ik_4 ?_
                    refine ca_vXv h hG ml_X12_328 (c_X12_check hs (q := L3) (by rw [up_s]; exact hX3)) (ci := 12) rfl rfl rfl (hs.1 _ _ _ ⟨rfl, rfl⟩) rfl rfl rfl rfl ⟨Nat.le_refl _, Nat.le_refl _⟩ rfl dX12_readRelation_151 ?_
                    intro μ9 hμ9
                    obtain ⟨p4, rfl, hX4, hf4⟩ := hμ9
                    rw [e150] at hX4
                    rw [up_up]
                    rw [up_s] at hf4
                    have hg4 := r_tf_tr hg3 hf4
                    refine ca_aload_nr h dX12_readRelation_154 rfl ?_
                    refine ca_vXv h hG ml_X12_332 (c_X12_advance hs (q := L4) (by rw [up_s]; exact hX4)) (ci := 12) rfl rfl rfl (hs.1 _ _ _ ⟨rfl, rfl⟩) rfl rfl rfl rfl ⟨Nat.le_refl _, Nat.le_refl _⟩ rfl dX12_readRelation_155 ?_
                    intro μ9 hμ9
                    obtain ⟨p5, rfl, hX5, hf5⟩ := hμ9
                    rw [up_up]
                    rw [up_s] at hf5
                    have hg5 := r_tf_tr hg4 hf5
                    refine ca_aload_nr h dX12_readRelation_158 rfl ?_
                    refine ca_iload_n h dX12_readRelation_159 rfl ?_
                    refine ca_iconst h dX12_readRelation_160 ik_2 ?_
                    refine ca_iadd h dX12_readRelation_161 ?_
                    refine ca_top (show _ = nI (90 + 5 * r + 2) by rw [show (2 : Int32) = nI 2 from rfl, nI_add]) ?_
                    refine ca_iconst h dX12_readRelation_162 ik_0 ?_
                    refine ca_bipush h dX12_readRelation_163 bk_30 ?_
                    refine ca_vXv h hG ml_X12_345 (c_X12_putNumber hs (q := t_adv L4) (by rw [up_s]; exact hX5) (pl := 90 + 5 * r + 2) (by omega) (by decide)) (ci := 12) rfl rfl rfl (hs.1 _ _ _ ⟨rfl, rfl⟩) rfl rfl rfl rfl ⟨Nat.le_refl _, Nat.le_refl _⟩ rfl dX12_readRelation_165 ?_
                    intro μ9 hμ9
                    obtain ⟨p6, rfl, hX6, hg6, hd6⟩ := hμ9
                    rw [up_up]
                    rw [up_s] at hg6 hd6
                    rw [← hT5] at hX6 hd6
                    have hgg := r_tg_tr (r_tg_tf hg5) hg6
                    refine ca_aload_nr h dX12_readRelation_168 rfl ?_
                    refine gi_X12_301 h (hs.1 _ _ _ ⟨rfl, rfl⟩) dX12_readRelation_169 ?_
                    refine ca_top (show _ = T5.2 12 0 1 by rw [up_s]; exact hX6.1.2.2.1) ?_
                    refine ca_if_ne (tgt := 203) h dX12_readRelation_172 (by decide) (fun c_172 => ?_) (fun c_172 => ?_)
                    ·
                      refine ca_vreturn h hR dX12_readRelation_203 ?_
                      have el := l_rel_e (q := q) (n := n) (by rw [e01]; exact c_9)
                      have el5 : l_r5 (q, n) = T5 := by rw [hT5, hL4, l_r5_e]
                      refine ⟨rfl, rfl, p6, rfl, by rw [el, el5]; exact hX6, hgg, fun z => ?_⟩
                      rw [el, el5] at z
                      exact absurd z c_172
                    · exact absurd c_172 (by rw [hT5, t_take_err (by rw [t_adv_f h40]; exact h40), t_adv_f h40]; exact h40)
                  · exact absurd c_128 h30
                ·
                  refine ca_iconst h dX12_readRelation_114 ik_1 ?_
                  refine ca_goto (tgt := 119) h dX12_readRelation_115 (by decide) ?_
                  have e52 : r_chk QX 1 2 = L3 := by rw [r_chk_1, hL3, (hok.1 c_106).2, if_neg c_111]
                  have h30 : L3 12 0 1 = 0 := by rw [hL3, (hok.1 c_106).2, if_neg c_111]; exact c_96
                  refine ca_iconst h dX12_readRelation_119 ik_2 ?_
                  refine ca_vXv h hG ml_X12_328 (c_X12_check hs (q := QX) (by rw [up_s]; exact hX2)) (ci := 12) rfl rfl rfl (hs.1 _ _ _ ⟨rfl, rfl⟩) rfl rfl rfl rfl ⟨Nat.le_refl _, Nat.le_refl _⟩ rfl dX12_readRelation_120 ?_
                  intro μ9 hμ9
                  obtain ⟨p3, rfl, hX3, hf3⟩ := hμ9
                  rw [e52] at hX3
                  rw [up_up]
                  rw [up_s] at hf3
                  have hg3 := r_tf_tr hg2 hf3
                  refine ca_aload_nr h dX12_readRelation_123 rfl ?_
                  refine ca_aload_nr h dX12_readRelation_124 rfl ?_
                  refine gi_X12_301 h (hs.1 _ _ _ ⟨rfl, rfl⟩) dX12_readRelation_125 ?_
                  refine ca_top (show _ = L3 12 0 1 by rw [up_s]; exact hX3.1.2.2.1) ?_
                  refine ca_if_ne (tgt := 145) h dX12_readRelation_128 (by decide) (fun c_128 => ?_) (fun c_128 => ?_)
                  · exact absurd h30 c_128
                  ·
                    obtain ⟨z0, l0, u0⟩ := t_take_in (q := t_adv q) (p := p0) (lo := 0) (hi := n 0 0 0 - 1) hX0 (by rw [← l_r1_e, ← hT1, ← (r_q1_k (q := T1.2) (by rw [← hQX]; exact c_96)).2, ← hQX]; exact c_96)
                    rw [← l_r1_e, ← hT1] at l0 u0
                    obtain ⟨a, ha31, ea⟩ := nI_of l0
                    have haC : nI a < n 0 0 0 := (l_hi hcc hc0 ha31).mp (by rw [← ea]; exact ⟨l0, u0⟩)
                    have e0c : n 0 0 0 = nI (k_cc n) := (nI_cn hc0).symm
                    have hac : a < k_cc n := (nI_ltI ha31 (by omega)).mp (by rw [← e0c]; exact haC)
                    have hbc : b < k_cc n := (nI_ltI hb31 (by omega)).mp (by rw [← e0c]; exact c_106)
                    have ha8 : a < 8 := by omega
                    have hb8 : b < 8 := by omega
                    have hNd : r_N n (μ 16 24 0) := hD.1
                    refine ca_aload_nr h dX12_readRelation_131 rfl ?_
                    refine ca_aload_nr h dX12_readRelation_132 rfl ?_
                    refine gs_X12_13 h hs ⟨rfl, rfl⟩ dX12_readRelation_133 ?_
                    refine ca_iload_n h dX12_readRelation_136 rfl ?_
                    refine ca_iload_n h dX12_readRelation_137 rfl ?_
                    refine ca_vi h hG ml_X12_81 (c_X12_relationOfD hs (by rw [up_s, hg3.1 24 (by decide)]; exact hD.1.2.2.2.1.1.2)) (ci := 12) rfl rfl rfl (hs.1 _ _ _ ⟨rfl, rfl⟩) rfl rfl rfl rfl ⟨Nat.le_refl _, Nat.le_refl _⟩ rfl dX12_readRelation_138 ?_
                    rw [show up μ 16 p3 16 24 0 = μ 16 24 0 by rw [up_s, hg3.1 24 (by decide)], ea]
                    refine ca_iconst h dX12_readRelation_141 ik_m1 ?_
                    refine ca_icmp_ne (tgt := 149) h dX12_readRelation_142 (by decide) (fun c_142 => ?_) (fun c_142 => ?_)
                    ·
                      refine ca_iconst h dX12_readRelation_149 ik_0 ?_
                      have hz : ¬ n 2 (8 * a + b) 0 = 0 := fun z => c_142 ((r_nb hNd ha8 hb8).mpr z)
                      have el4 : L4 = t_fail L3 4 := by rw [hL4, l_r4_e, (hok.1 c_106).1, ← hT1, ea, r_rx ha8 hb8, if_neg hz, ← hL3]
                      have e150 : r_chk L3 0 4 = L4 := by rw [r_chk_0]; exact el4.symm
                      have h40 : ¬ L4 12 0 1 = 0 := by rw [el4]; exact t_fail_ne (by decide)
                      refine ca_iconst h dX12_readRelation_150 ik_4 ?_
                      refine ca_vXv h hG ml_X12_328 (c_X12_check hs (q := L3) (by rw [up_s]; exact hX3)) (ci := 12) rfl rfl rfl (hs.1 _ _ _ ⟨rfl, rfl⟩) rfl rfl rfl rfl ⟨Nat.le_refl _, Nat.le_refl _⟩ rfl dX12_readRelation_151 ?_
                      intro μ9 hμ9
                      obtain ⟨p4, rfl, hX4, hf4⟩ := hμ9
                      rw [e150] at hX4
                      rw [up_up]
                      rw [up_s] at hf4
                      have hg4 := r_tf_tr hg3 hf4
                      refine ca_aload_nr h dX12_readRelation_154 rfl ?_
                      refine ca_vXv h hG ml_X12_332 (c_X12_advance hs (q := L4) (by rw [up_s]; exact hX4)) (ci := 12) rfl rfl rfl (hs.1 _ _ _ ⟨rfl, rfl⟩) rfl rfl rfl rfl ⟨Nat.le_refl _, Nat.le_refl _⟩ rfl dX12_readRelation_155 ?_
                      intro μ9 hμ9
                      obtain ⟨p5, rfl, hX5, hf5⟩ := hμ9
                      rw [up_up]
                      rw [up_s] at hf5
                      have hg5 := r_tf_tr hg4 hf5
                      refine ca_aload_nr h dX12_readRelation_158 rfl ?_
                      refine ca_iload_n h dX12_readRelation_159 rfl ?_
                      refine ca_iconst h dX12_readRelation_160 ik_2 ?_
                      refine ca_iadd h dX12_readRelation_161 ?_
                      refine ca_top (show _ = nI (90 + 5 * r + 2) by rw [show (2 : Int32) = nI 2 from rfl, nI_add]) ?_
                      refine ca_iconst h dX12_readRelation_162 ik_0 ?_
                      refine ca_bipush h dX12_readRelation_163 bk_30 ?_
                      refine ca_vXv h hG ml_X12_345 (c_X12_putNumber hs (q := t_adv L4) (by rw [up_s]; exact hX5) (pl := 90 + 5 * r + 2) (by omega) (by decide)) (ci := 12) rfl rfl rfl (hs.1 _ _ _ ⟨rfl, rfl⟩) rfl rfl rfl rfl ⟨Nat.le_refl _, Nat.le_refl _⟩ rfl dX12_readRelation_165 ?_
                      intro μ9 hμ9
                      obtain ⟨p6, rfl, hX6, hg6, hd6⟩ := hμ9
                      rw [up_up]
                      rw [up_s] at hg6 hd6
                      rw [← hT5] at hX6 hd6
                      have hgg := r_tg_tr (r_tg_tf hg5) hg6
                      refine ca_aload_nr h dX12_readRelation_168 rfl ?_
                      refine gi_X12_301 h (hs.1 _ _ _ ⟨rfl, rfl⟩) dX12_readRelation_169 ?_
                      refine ca_top (show _ = T5.2 12 0 1 by rw [up_s]; exact hX6.1.2.2.1) ?_
                      refine ca_if_ne (tgt := 203) h dX12_readRelation_172 (by decide) (fun c_172 => ?_) (fun c_172 => ?_)
                      ·
                        refine ca_vreturn h hR dX12_readRelation_203 ?_
                        have el := l_rel_e (q := q) (n := n) (by rw [e01]; exact c_9)
                        have el5 : l_r5 (q, n) = T5 := by rw [hT5, hL4, l_r5_e]
                        refine ⟨rfl, rfl, p6, rfl, by rw [el, el5]; exact hX6, hgg, fun z => ?_⟩
                        rw [el, el5] at z
                        exact absurd z c_172
                      · exact absurd c_172 (by rw [hT5, t_take_err (by rw [t_adv_f h40]; exact h40), t_adv_f h40]; exact h40)
                    ·
                      refine ca_iconst h dX12_readRelation_145 ik_1 ?_
                      refine ca_goto (tgt := 150) h dX12_readRelation_146 (by decide) ?_
                      have hz : n 2 (8 * a + b) 0 = 0 := (r_nb hNd ha8 hb8).mp c_142
                      have el4 : L4 = L3 := by rw [hL4, l_r4_e, (hok.1 c_106).1, ← hT1, ea, r_rx ha8 hb8, if_pos hz, ← hL3]
                      have e150 : r_chk L3 1 4 = L4 := by rw [r_chk_1]; exact el4.symm
                      refine ca_iconst h dX12_readRelation_150 ik_4 ?_
                      refine ca_vXv h hG ml_X12_328 (c_X12_check hs (q := L3) (by rw [up_s]; exact hX3)) (ci := 12) rfl rfl rfl (hs.1 _ _ _ ⟨rfl, rfl⟩) rfl rfl rfl rfl ⟨Nat.le_refl _, Nat.le_refl _⟩ rfl dX12_readRelation_151 ?_
                      intro μ9 hμ9
                      obtain ⟨p4, rfl, hX4, hf4⟩ := hμ9
                      rw [e150] at hX4
                      rw [up_up]
                      rw [up_s] at hf4
                      have hg4 := r_tf_tr hg3 hf4
                      refine ca_aload_nr h dX12_readRelation_154 rfl ?_
                      refine ca_vXv h hG ml_X12_332 (c_X12_advance hs (q := L4) (by rw [up_s]; exact hX4)) (ci := 12) rfl rfl rfl (hs.1 _ _ _ ⟨rfl, rfl⟩) rfl rfl rfl rfl ⟨Nat.le_refl _, Nat.le_refl _⟩ rfl dX12_readRelation_155 ?_
                      intro μ9 hμ9
                      obtain ⟨p5, rfl, hX5, hf5⟩ := hμ9
                      rw [up_up]
                      rw [up_s] at hf5
                      have hg5 := r_tf_tr hg4 hf5
                      refine ca_aload_nr h dX12_readRelation_158 rfl ?_
                      refine ca_iload_n h dX12_readRelation_159 rfl ?_
                      refine ca_iconst h dX12_readRelation_160 ik_2 ?_
                      refine ca_iadd h dX12_readRelation_161 ?_
                      refine ca_top (show _ = nI (90 + 5 * r + 2) by rw [show (2 : Int32) = nI 2 from rfl, nI_add]) ?_
                      refine ca_iconst h dX12_readRelation_162 ik_0 ?_
                      refine ca_bipush h dX12_readRelation_163 bk_30 ?_
                      refine ca_vXv h hG ml_X12_345 (c_X12_putNumber hs (q := t_adv L4) (by rw [up_s]; exact hX5) (pl := 90 + 5 * r + 2) (by omega) (by decide)) (ci := 12) rfl rfl rfl (hs.1 _ _ _ ⟨rfl, rfl⟩) rfl rfl rfl rfl ⟨Nat.le_refl _, Nat.le_refl _⟩ rfl dX12_readRelation_165 ?_
                      intro μ9 hμ9
                      obtain ⟨p6, rfl, hX6, hg6, hd6⟩ := hμ9
                      rw [up_up]
                      rw [up_s] at hg6 hd6
                      rw [← hT5] at hX6 hd6
                      have hgg := r_tg_tr (r_tg_tf hg5) hg6
                      refine ca_aload_nr h dX12_readRelation_168 rfl ?_
                      refine gi_X12_301 h (hs.1 _ _ _ ⟨rfl, rfl⟩) dX12_readRelation_169 ?_
                      refine ca_top (show _ = T5.2 12 0 1 by rw [up_s]; exact hX6.1.2.2.1) ?_
                      refine ca_if_ne (tgt := 203) h dX12_readRelation_172 (by decide) (fun c_172 => ?_) (fun c_172 => ?_)
                      ·
                        refine ca_vreturn h hR dX12_readRelation_203 ?_
                        have el := l_rel_e (q := q) (n := n) (by rw [e01]; exact c_9)
                        have el5 : l_r5 (q, n) = T5 := by rw [hT5, hL4, l_r5_e]
                        refine ⟨rfl, rfl, p6, rfl, by rw [el, el5]; exact hX6, hgg, fun z => ?_⟩
                        rw [el, el5] at z
                        exact absurd z c_172
                      ·
                        refine ca_aload_nr h dX12_readRelation_175 rfl ?_
                        refine gs_X12_13 h hs ⟨rfl, rfl⟩ dX12_readRelation_176 ?_
                        refine ca_iload_n h dX12_readRelation_179 rfl ?_
                        refine ca_iconst h dX12_readRelation_180 ik_0 ?_
                        refine ca_iadd h dX12_readRelation_181 ?_
                        refine ca_top (show _ = nI (90 + 5 * r) by rw [Int32.add_zero]) ?_
                        refine ca_iload_n h dX12_readRelation_182 rfl ?_
                        refine ca_iast h rfl (hs.1 _ _ _ ⟨rfl, rfl⟩) (vp_in_nI (by omega) (by decide)) dX12_readRelation_183 ?_
                        refine ca_aload_nr h dX12_readRelation_184 rfl ?_
                        refine gs_X12_13 h hs ⟨rfl, rfl⟩ dX12_readRelation_185 ?_
                        refine ca_iload_n h dX12_readRelation_188 rfl ?_
                        refine ca_iconst h dX12_readRelation_189 ik_1 ?_
                        refine ca_iadd h dX12_readRelation_190 ?_
                        refine ca_top (show _ = nI (90 + 5 * r + 1) by rw [nI_1]) ?_
                        refine ca_iload_n h dX12_readRelation_191 rfl ?_
                        refine ca_iast h rfl (hs.1 _ _ _ ⟨rfl, rfl⟩) (vp_in_nI (by omega) (by decide)) dX12_readRelation_192 ?_
                        refine ca_aload_nr h dX12_readRelation_193 rfl ?_
                        refine gs_X12_13 h hs ⟨rfl, rfl⟩ dX12_readRelation_194 ?_
                        refine ca_iconst h dX12_readRelation_197 ik_1 ?_
                        refine ca_dup2 h dX12_readRelation_198 rfl rfl ?_
                        refine ca_iald h rfl (hs.1 _ _ _ ⟨rfl, rfl⟩) (vp_in_nI (n := 1) (N := 1302) (by decide) (by decide)) dX12_readRelation_199 ?_
                        refine ca_iconst h dX12_readRelation_200 ik_1 ?_
                        refine ca_iadd h dX12_readRelation_201 ?_
                        refine ca_iast h rfl (hs.1 _ _ _ ⟨rfl, rfl⟩) (vp_in_nI (n := 1) (N := 1302) (by decide) (by decide)) dX12_readRelation_202 ?_
                        refine ca_vreturn h hR dX12_readRelation_203 ?_
                        have el := l_rel_e (q := q) (n := n) (by rw [e01]; exact c_9)
                        have el5 : l_r5 (q, n) = T5 := by rw [hT5, hL4, l_r5_e]
                        rw [el5, (hok.1 c_106).1, ← hT1, ea, r_rx ha8 hb8, e01, nI_1] at el
                        rw [r_dn_0 c_172] at hd6
                        have hd60 : p6 24 0 = up (μ 16 24 0) (90 + 5 * r + 2) T5.1 := by rw [hd6, hg5.1 24 (by decide)]
                        refine ⟨rfl, rfl, _, by simp only [ch_st_nw, up_s, up_up]; rfl, by rw [el]; exact r_X1_24 (r_X1_24 (r_X1_24 hX6)), r_tg_tr (r_tg_tr (r_tg_tr hgg r_tg_24) r_tg_24) r_tg_24, fun z => ?_⟩
                        rw [el]
                        show r_D (nw (nw (nw n 2 (8 * a + b) 1 T5.1) 2 (8 * a + b) 0 1) 0 0 1 (nI (r + 1))) _
                        refine r_D_rel hD hac hbc hr hr24 hz rfl (fun j => ?_)
                        simp only [nw_24]
                        rw [hd60, nI_clamp (show 90 + 5 * r < 2 ^ 31 by omega), nI_clamp (show 90 + 5 * r + 1 < 2 ^ 31 by omega), show Int32.toNatClampNeg 1 = 1 from rfl]
                        simp only [up_ap]
                        have e1 : (if (1 : Nat) = 90 + 5 * r + 1 then nI b else if 1 = 90 + 5 * r then nI a else if 1 = 90 + 5 * r + 2 then T5.1 else μ 16 24 0 1) + 1 = nI (r + 1) := by
                          rw [if_neg (by omega), if_neg (by omega), if_neg (by omega), hD.1.1 1 (by decide), e01, nI_1]
                        by_cases h1 : j = 1
                        · rw [if_pos h1, if_pos h1]; first | exact e1 | (rw [if_neg (by omega), if_neg (by omega), if_neg (by omega), hD.1.1 1 (by decide), e01, nI_1])
                        · rw [if_neg h1, if_neg h1]
                          by_cases h2 : j = 90 + 5 * r + 1
                          · rw [if_pos h2, if_neg (by omega), if_pos h2]
                          · rw [if_neg h2]
                            by_cases h3 : j = 90 + 5 * r
                            · rw [if_pos h3, if_pos h3]
                            · rw [if_neg h3, if_neg h3, if_neg h2]
    · exact absurd (by rw [t_adv_1]; exact h0) c_29
