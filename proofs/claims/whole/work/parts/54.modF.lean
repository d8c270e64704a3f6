theorem t_k3 (b : Nat → Int32) (e i : Nat) : t_k b e i = 3 ↔ t_at b e i = 32 ∨ t_at b e i = 10 := t_kd3 _
theorem t_rn_stop (b : Nat → Int32) (e : Nat) (k : Int32) : ∀ j i, i + j = e → ¬ t_k b e (t_rn b e k j i) = k ∨ t_rn b e k j i = e
  | 0, i, h => Or.inr h
  | j + 1, i, h => by
    rw [t_rn_s]
    split
    · exact t_rn_stop b e k j (i + 1) (by omega)
    · exact Or.inl (by assumption)
theorem t_nn_run {b : Nat → Int32} {e s : Nat} {k : Int32} (hs : s < e) (hk : t_k b e s = k) (h12 : k = 1 ∨ k = 2) : t_rn b e k (e - s) s = t_nn b e s := by
  unfold t_nn
  rw [if_pos (by rw [hk]; exact h12), hk]
  have e0 : t_n0 e s = s + 1 := by unfold t_n0; split <;> omega
  rw [e0, show e - s = (e - (s + 1)) + 1 by omega, t_rn_s, if_pos hk]
set_option maxHeartbeats 100000 in
theorem c_X12_scan {l : Launch} {E : ch_E} {S : ch_S} {μ : ch_M} (hs : ch_Std E S) {e : Nat} (he : μ 16 22 0 13 = nI e) (h7 : e ≤ 700) {n : Nat} (hn0 : μ 16 22 0 14 = nI n) (hne : n ≤ e) (hby : ∀ i, i < e → ¬ μ 16 30 0 i = -1) : ch_C E l yX12_scan cX12_scan 1 none 3 0 0 S μ [.ref (S.1 16 22 0)] (ch_F none S (up μ 16 (r_ts (μ 16) (t_ns (μ 16 30 0) e n) (t_nn (μ 16 30 0) e (t_ns (μ 16 30 0) e n)) (r_tok (t_k (μ 16 30 0) e (t_ns (μ 16 30 0) e n)))))) := by
  refine ch_enter rfl rfl ?_
  intro X hl0 h hG hR hnm
  have h : ch_H X E RX12 cX12_scan 1 := h
  show ch_W X E 1 S μ 0 0 0 [(0, .ref (S.1 16 22 0))] []
  have K_39 : ∀ (s : Nat) (_ : s = t_ns (μ 16 30 0) e n), ch_W X E 1 S (up μ 16 (nw (μ 16) 22 0 14 (nI s))) 0 0 39 [(0, .ref (S.1 16 22 0))] [] := by
    intro s hs9
    have hse : s ≤ e := by rw [hs9]; exact (t_ns_le hne).1
    have hk3 : ¬ t_k (μ 16 30 0) e s = 3 := by
      rcases t_rn_stop (μ 16 30 0) e 3 (e - n) n (by omega) with z | z
      · rw [hs9]; exact z
      · rw [show s = e from hs9.trans z]; unfold t_k; rw [t_at_e _ (Nat.le_refl e)]; decide
    refine ca_aload_nr h dX12_scan_39 rfl ?_
    refine ca_aload_nr h dX12_scan_40 rfl ?_
    refine gi_X12_286 h (hs.1 _ _ _ ⟨rfl, rfl⟩) dX12_scan_41 ?_
    refine pi_X12_289 h (hs.1 _ _ _ ⟨rfl, rfl⟩) dX12_scan_44 ?_
    refine ca_mem (μ'' := up μ 16 (r_n2 (μ 16) s s)) (by rw [ch_st_nw, up_s, up_up, nw_at, if_pos ⟨rfl, rfl, rfl⟩, nw_cm (by decide)]; rfl) ?_
    refine ca_aload_nr h dX12_scan_47 rfl ?_
    refine gi_X12_286 h (hs.1 _ _ _ ⟨rfl, rfl⟩) dX12_scan_48 ?_
    rw [(show up μ 16 (r_n2 (μ 16) s s) 16 22 0 14 = nI s by rw [up_s, r_n2_14])]
    refine ca_aload_nr h dX12_scan_51 rfl ?_
    refine gi_X12_280 h (hs.1 _ _ _ ⟨rfl, rfl⟩) dX12_scan_52 ?_
    refine ca_top (show _ = nI e by rw [up_s, r_n2_o _ _ _ (by decide) (by decide)]; exact he) ?_
    refine ca_icmp_lt (tgt := 66) h dX12_scan_55 (by decide) (fun c_55 => ?_) (fun c_55 => ?_)
    ·
      have hse2 : s < e := (nI_ltI (by omega) (by omega)).mp c_55
      have hk0 : ¬ t_kd (t_at (μ 16 30 0) e s) = 0 := fun z => by
        have y := (t_kd0 _).mp z
        unfold t_at at y
        rw [if_pos hse2] at y
        exact hby s hse2 y
      refine ca_aload_nr h dX12_scan_66 rfl ?_
      refine ca_aload_nr h dX12_scan_67 rfl ?_
      refine gi_X12_286 h (hs.1 _ _ _ ⟨rfl, rfl⟩) dX12_scan_68 ?_
      rw [(show up μ 16 (r_n2 (μ 16) s s) 16 22 0 14 = nI s by rw [up_s, r_n2_14])]
      refine ca_vi h hG ml_X12_295 (c_X12_isLetter hs (i := s) (e := e) (by rw [up_s, r_n2_o _ _ _ (by decide) (by decide)]; exact he) h7 (by omega)) (ci := 12) rfl rfl rfl (hs.1 _ _ _ ⟨rfl, rfl⟩) rfl rfl rfl rfl ⟨Nat.le_refl _, Nat.le_refl _⟩ rfl dX12_scan_71 ?_
      rw [(show up μ 16 (r_n2 (μ 16) s s) 16 30 0 = μ 16 30 0 by rw [up_s, r_n2_k _ _ _ (by decide)])]
      refine ca_if_eq (tgt := 109) h dX12_scan_74 (by decide) (fun c_74 => ?_) (fun c_74 => ?_)
      ·
        refine ca_aload_nr h dX12_scan_109 rfl ?_
        refine ca_aload_nr h dX12_scan_110 rfl ?_
        refine gi_X12_286 h (hs.1 _ _ _ ⟨rfl, rfl⟩) dX12_scan_111 ?_
        rw [(show up μ 16 (r_n2 (μ 16) s s) 16 22 0 14 = nI s by rw [up_s, r_n2_14])]
        refine ca_vi h hG ml_X12_298 (c_X12_isDigit hs (i := s) (e := e) (by rw [up_s, r_n2_o _ _ _ (by decide) (by decide)]; exact he) h7 (by omega)) (ci := 12) rfl rfl rfl (hs.1 _ _ _ ⟨rfl, rfl⟩) rfl rfl rfl rfl ⟨Nat.le_refl _, Nat.le_refl _⟩ rfl dX12_scan_114 ?_
        rw [(show up μ 16 (r_n2 (μ 16) s s) 16 30 0 = μ 16 30 0 by rw [up_s, r_n2_k _ _ _ (by decide)])]
        refine ca_if_eq (tgt := 152) h dX12_scan_117 (by decide) (fun c_117 => ?_) (fun c_117 => ?_)
        ·
          refine ca_aload_nr h dX12_scan_152 rfl ?_
          refine ca_dup h dX12_scan_153 rfl ?_
          refine gi_X12_286 h (hs.1 _ _ _ ⟨rfl, rfl⟩) dX12_scan_154 ?_
          refine ca_iconst h dX12_scan_157 ik_1 ?_
          refine ca_iadd h dX12_scan_158 ?_
          refine pi_X12_286 h (hs.1 _ _ _ ⟨rfl, rfl⟩) dX12_scan_159 ?_
          refine ca_aload_nr h dX12_scan_162 rfl ?_
          refine ca_iconst h dX12_scan_163 ik_3 ?_
          refine pi_X12_292 h (hs.1 _ _ _ ⟨rfl, rfl⟩) dX12_scan_164 ?_
          refine ca_vreturn h hR dX12_scan_167 ?_
          have hse2 : s < e := (nI_ltI (by omega) (by omega)).mp c_55
          have h1 := of_decide_eq_false (bI_0.mp c_74)
          have h2 := of_decide_eq_false (bI_0.mp c_117)
          have hk4 : r_tok (t_k (μ 16 30 0) e s) = 3 := by
            rcases t_kd4 (t_at (μ 16 30 0) e s) with z | z | z | z | z
            · exact absurd z hk0
            · exact absurd z h1
            · exact absurd z h2
            · exact absurd z hk3
            · unfold t_k; rw [z]; rfl
          exact ⟨rfl, rfl, by rw [← hs9, hk4, show t_nn (μ 16 30 0) e s = s + 1 by unfold t_nn t_n0; rw [if_neg (fun z => z.elim h1 h2)]; split <;> omega]; simp only [ch_st_nw, up_s, up_up]; rw [r_n2_14, nI_1, r_n2_s]; rfl⟩
        ·
          have hk2 : t_k (μ 16 30 0) e s = 2 := of_decide_eq_true (bI_n0.mp c_117)
          have hnn2 := t_nn_run hse2 hk2 (Or.inr rfl)
          have loop_120 : ∀ (jj i : Nat), i + jj = e → ∀ (hsi : s ≤ i) (hrn : t_rn (μ 16 30 0) e 2 jj i = t_nn (μ 16 30 0) e s) (mm : ch_M) (em : mm = up μ 16 (r_n2 (μ 16) s i)), ch_W X E 1 S mm 0 0 120 [(0, .ref (S.1 16 22 0))] [] := by
            intro jj
            induction jj with
            | zero =>
              intro i hn hsi hrn mm em
              have hn : i = e := by omega
              subst em
              refine ca_aload_nr h dX12_scan_120 rfl ?_
              refine ca_aload_nr h dX12_scan_121 rfl ?_
              refine gi_X12_286 h (hs.1 _ _ _ ⟨rfl, rfl⟩) dX12_scan_122 ?_
              rw [(show up μ 16 (r_n2 (μ 16) s i) 16 22 0 14 = nI i by rw [up_s, r_n2_14])]
              refine ca_vi h hG ml_X12_298 (c_X12_isDigit hs (i := i) (e := e) (by rw [up_s, r_n2_o _ _ _ (by decide) (by decide)]; exact he) h7 (by omega)) (ci := 12) rfl rfl rfl (hs.1 _ _ _ ⟨rfl, rfl⟩) rfl rfl rfl rfl ⟨Nat.le_refl _, Nat.le_refl _⟩ rfl dX12_scan_125 ?_
              rw [(show up μ 16 (r_n2 (μ 16) s i) 16 30 0 = μ 16 30 0 by rw [up_s, r_n2_k _ _ _ (by decide)])]
              refine ca_if_eq (tgt := 144) h dX12_scan_128 (by decide) (fun c_128 => ?_) (fun c_128 => ?_)
              ·
                refine ca_aload_nr h dX12_scan_144 rfl ?_
                refine ca_iconst h dX12_scan_145 ik_2 ?_
                refine pi_X12_292 h (hs.1 _ _ _ ⟨rfl, rfl⟩) dX12_scan_146 ?_
                refine ca_goto (tgt := 167) h dX12_scan_149 (by decide) ?_
                refine ca_vreturn h hR dX12_scan_167 ?_
                have hi9 : i = t_nn (μ 16 30 0) e s := by rw [← hrn]; rfl
                exact ⟨rfl, rfl, by rw [← hs9, hk2, ← hi9, ch_st_nw, up_s, up_up]; rfl⟩
              · exact absurd (show t_k (μ 16 30 0) e i = 2 from by have z := of_decide_eq_true (bI_n0.mp c_128); exact z) (by unfold t_k; rw [t_at_e _ (by omega)]; decide)
            | succ jj ih_120 =>
              intro i hn hsi hrn mm em
              have hn1 : i < e := by omega
              subst em
              refine ca_aload_nr h dX12_scan_120 rfl ?_
              refine ca_aload_nr h dX12_scan_121 rfl ?_
              refine gi_X12_286 h (hs.1 _ _ _ ⟨rfl, rfl⟩) dX12_scan_122 ?_
              rw [(show up μ 16 (r_n2 (μ 16) s i) 16 22 0 14 = nI i by rw [up_s, r_n2_14])]
              refine ca_vi h hG ml_X12_298 (c_X12_isDigit hs (i := i) (e := e) (by rw [up_s, r_n2_o _ _ _ (by decide) (by decide)]; exact he) h7 (by omega)) (ci := 12) rfl rfl rfl (hs.1 _ _ _ ⟨rfl, rfl⟩) rfl rfl rfl rfl ⟨Nat.le_refl _, Nat.le_refl _⟩ rfl dX12_scan_125 ?_
              rw [(show up μ 16 (r_n2 (μ 16) s i) 16 30 0 = μ 16 30 0 by rw [up_s, r_n2_k _ _ _ (by decide)])]
              refine ca_if_eq (tgt := 144) h dX12_scan_128 (by decide) (fun c_128 => ?_) (fun c_128 => ?_)
              ·
                refine ca_aload_nr h dX12_scan_144 rfl ?_
                refine ca_iconst h dX12_scan_145 ik_2 ?_
                refine pi_X12_292 h (hs.1 _ _ _ ⟨rfl, rfl⟩) dX12_scan_146 ?_
                refine ca_goto (tgt := 167) h dX12_scan_149 (by decide) ?_
                refine ca_vreturn h hR dX12_scan_167 ?_
                have hi9 : i = t_nn (μ 16 30 0) e s := by rw [← hrn, t_rn_s, if_neg (fun z => of_decide_eq_false (bI_0.mp c_128) z)]
                exact ⟨rfl, rfl, by rw [← hs9, hk2, ← hi9, ch_st_nw, up_s, up_up]; rfl⟩
              ·
                refine ca_aload_nr h dX12_scan_131 rfl ?_
                refine ca_dup h dX12_scan_132 rfl ?_
                refine gi_X12_286 h (hs.1 _ _ _ ⟨rfl, rfl⟩) dX12_scan_133 ?_
                refine ca_iconst h dX12_scan_136 ik_1 ?_
                refine ca_iadd h dX12_scan_137 ?_
                refine pi_X12_286 h (hs.1 _ _ _ ⟨rfl, rfl⟩) dX12_scan_138 ?_
                refine ca_goto (tgt := 120) h dX12_scan_141 (by decide) ?_
                refine ca_pick [0] rfl ?_
                exact ih_120 (i + 1) (by omega) (by omega) (by rw [← hrn, t_rn_s, if_pos (of_decide_eq_true (bI_n0.mp c_128))]) _ (by rw [ch_st_nw, up_s, up_up, r_n2_14, nI_1, r_n2_s])
          refine ca_pick [0] rfl ?_
          exact loop_120 (e - s) s (by omega) (Nat.le_refl _) (by rw [hnn2]) _ rfl
      ·
        have hk1 : t_k (μ 16 30 0) e s = 1 := of_decide_eq_true (bI_n0.mp c_74)
        have hnn1 := t_nn_run hse2 hk1 (Or.inl rfl)
        have loop_77 : ∀ (jj i : Nat), i + jj = e → ∀ (hsi : s ≤ i) (hrn : t_rn (μ 16 30 0) e 1 jj i = t_nn (μ 16 30 0) e s) (mm : ch_M) (em : mm = up μ 16 (r_n2 (μ 16) s i)), ch_W X E 1 S mm 0 0 77 [(0, .ref (S.1 16 22 0))] [] := by
          intro jj
          induction jj with
          | zero =>
            intro i hn hsi hrn mm em
            have hn : i = e := by omega
            subst em
            refine ca_aload_nr h dX12_scan_77 rfl ?_
            refine ca_aload_nr h dX12_scan_78 rfl ?_
            refine gi_X12_286 h (hs.1 _ _ _ ⟨rfl, rfl⟩) dX12_scan_79 ?_
            rw [(show up μ 16 (r_n2 (μ 16) s i) 16 22 0 14 = nI i by rw [up_s, r_n2_14])]
            refine ca_vi h hG ml_X12_295 (c_X12_isLetter hs (i := i) (e := e) (by rw [up_s, r_n2_o _ _ _ (by decide) (by decide)]; exact he) h7 (by omega)) (ci := 12) rfl rfl rfl (hs.1 _ _ _ ⟨rfl, rfl⟩) rfl rfl rfl rfl ⟨Nat.le_refl _, Nat.le_refl _⟩ rfl dX12_scan_82 ?_
            rw [(show up μ 16 (r_n2 (μ 16) s i) 16 30 0 = μ 16 30 0 by rw [up_s, r_n2_k _ _ _ (by decide)])]
            refine ca_if_eq (tgt := 101) h dX12_scan_85 (by decide) (fun c_85 => ?_) (fun c_85 => ?_)
            ·
              refine ca_aload_nr h dX12_scan_101 rfl ?_
              refine ca_iconst h dX12_scan_102 ik_1 ?_
              refine pi_X12_292 h (hs.1 _ _ _ ⟨rfl, rfl⟩) dX12_scan_103 ?_
              refine ca_goto (tgt := 167) h dX12_scan_106 (by decide) ?_
              refine ca_vreturn h hR dX12_scan_167 ?_
              have hi9 : i = t_nn (μ 16 30 0) e s := by rw [← hrn]; rfl
              exact ⟨rfl, rfl, by rw [← hs9, hk1, ← hi9, ch_st_nw, up_s, up_up]; rfl⟩
            · exact absurd (show t_k (μ 16 30 0) e i = 1 from by have z := of_decide_eq_true (bI_n0.mp c_85); exact z) (by unfold t_k; rw [t_at_e _ (by omega)]; decide)
          | succ jj ih_77 =>
            intro i hn hsi hrn mm em
            have hn1 : i < e := by omega
            subst em
            refine ca_aload_nr h dX12_scan_77 rfl ?_
            refine ca_aload_nr h dX12_scan_78 rfl ?_
            refine gi_X12_286 h (hs.1 _ _ _ ⟨rfl, rfl⟩) dX12_scan_79 ?_
            rw [(show up μ 16 (r_n2 (μ 16) s i) 16 22 0 14 = nI i by rw [up_s, r_n2_14])]
            refine ca_vi h hG ml_X12_295 (c_X12_isLetter hs (i := i) (e := e) (by rw [up_s, r_n2_o _ _ _ (by decide) (by decide)]; exact he) h7 (by omega)) (ci := 12) rfl rfl rfl (hs.1 _ _ _ ⟨rfl, rfl⟩) rfl rfl rfl rfl ⟨Nat.le_refl _, Nat.le_refl _⟩ rfl dX12_scan_82 ?_
            rw [(show up μ 16 (r_n2 (μ 16) s i) 16 30 0 = μ 16 30 0 by rw [up_s, r_n2_k _ _ _ (by decide)])]
            refine ca_if_eq (tgt := 101) h dX12_scan_85 (by decide) (fun c_85 => ?_) (fun c_85 => ?_)
            ·
              refine ca_aload_nr h dX12_scan_101 rfl ?_
              refine ca_iconst h dX12_scan_102 ik_1 ?_
              refine pi_X12_292 h (hs.1 _ _ _ ⟨rfl, rfl⟩) dX12_scan_103 ?_
              refine ca_goto (tgt := 167) h dX12_scan_106 (by decide) ?_
              refine ca_vreturn h hR dX12_scan_167 ?_
              have hi9 : i = t_nn (μ 16 30 0) e s := by rw [← hrn, t_rn_s, if_neg (fun z => of_decide_eq_false (bI_0.mp c_85) z)]
              exact ⟨rfl, rfl, by rw [← hs9, hk1, ← hi9, ch_st_nw, up_s, up_up]; rfl⟩
            ·
              refine ca_aload_nr h dX12_scan_88 rfl ?_
              refine ca_dup h dX12_scan_89 rfl ?_
              refine gi_X12_286 h (hs.1 _ _ _ ⟨rfl, rfl⟩) dX12_scan_90 ?_
              refine ca_iconst h dX12_scan_93 ik_1 ?_
              refine ca_iadd h dX12_scan_94 ?_
              refine pi_X12_286 h (hs.1 _ _ _ ⟨rfl, rfl⟩) dX12_scan_95 ?_
              refine ca_goto (tgt := 77) h dX12_scan_98 (by decide) ?_
              refine ca_pick [0] rfl ?_
              exact ih_77 (i + 1) (by omega) (by omega) (by rw [← hrn, t_rn_s, if_pos (of_decide_eq_true (bI_n0.mp c_85))]) _ (by rw [ch_st_nw, up_s, up_up, r_n2_14, nI_1, r_n2_s])
        refine ca_pick [0] rfl ?_
        exact loop_77 (e - s) s (by omega) (Nat.le_refl _) (by rw [hnn1]) _ rfl
    ·
      refine ca_aload_nr h dX12_scan_58 rfl ?_
      refine ca_iconst h dX12_scan_59 ik_0 ?_
      refine pi_X12_292 h (hs.1 _ _ _ ⟨rfl, rfl⟩) dX12_scan_60 ?_
      refine ca_goto (tgt := 167) h dX12_scan_63 (by decide) ?_
      refine ca_vreturn h hR dX12_scan_167 ?_
      have hse2 : s = e := by have : ¬ s < e := fun z => c_55 (nI_lt z (by omega)); omega
      have hk0 : t_k (μ 16 30 0) e s = 0 := by unfold t_k; rw [t_at_e _ (by omega)]; rfl
      exact ⟨rfl, rfl, by rw [← hs9, hk0, ch_st_nw, up_s, up_up, show t_nn (μ 16 30 0) e s = s by unfold t_nn t_n0; rw [hk0, if_neg (by decide), if_pos (by omega)]; omega]; rfl⟩
  have loop_0 : ∀ (jj i : Nat), i + jj = e → ∀ (hrn : t_rn (μ 16 30 0) e 3 jj i = (t_ns (μ 16 30 0) e n)) (mm : ch_M) (em : mm = up μ 16 (nw (μ 16) 22 0 14 (nI i))), ch_W X E 1 S mm 0 0 0 [(0, .ref (S.1 16 22 0))] [] := by
    intro jj
    induction jj with
    | zero =>
      intro i hn hrn mm em
      have hn : i = e := by omega
      subst em
      refine ca_aload_nr h dX12_scan_0 rfl ?_
      refine ca_aload_nr h dX12_scan_1 rfl ?_
      refine gi_X12_286 h (hs.1 _ _ _ ⟨rfl, rfl⟩) dX12_scan_2 ?_
      rw [(show up μ 16 (nw (μ 16) 22 0 14 (nI i)) 16 22 0 14 = nI i by rw [up_s, nw_at, if_pos ⟨rfl, rfl, rfl⟩])]
      refine ca_vi h hG ml_X12_283 (c_X12_byteAt hs (by rw [up_s, nw_at, if_neg (by omega)]; exact he) h7 (show i < 2 ^ 31 by omega)) (ci := 12) rfl rfl rfl (hs.1 _ _ _ ⟨rfl, rfl⟩) rfl rfl rfl rfl ⟨Nat.le_refl _, Nat.le_refl _⟩ rfl dX12_scan_5 ?_
      rw [(show up μ 16 (nw (μ 16) 22 0 14 (nI i)) 16 30 0 = μ 16 30 0 by rw [up_s, nw_k (by decide)])]
      refine ca_bipush h dX12_scan_8 bk_32 ?_
      refine ca_icmp_eq (tgt := 26) h dX12_scan_10 (by decide) (fun c_10 => ?_) (fun c_10 => ?_)
      · exact absurd c_10 (by rw [t_at_e _ (by omega)]; decide)
      ·
        refine ca_aload_nr h dX12_scan_13 rfl ?_
        refine ca_aload_nr h dX12_scan_14 rfl ?_
        refine gi_X12_286 h (hs.1 _ _ _ ⟨rfl, rfl⟩) dX12_scan_15 ?_
        rw [(show up μ 16 (nw (μ 16) 22 0 14 (nI i)) 16 22 0 14 = nI i by rw [up_s, nw_at, if_pos ⟨rfl, rfl, rfl⟩])]
        refine ca_vi h hG ml_X12_283 (c_X12_byteAt hs (by rw [up_s, nw_at, if_neg (by omega)]; exact he) h7 (show i < 2 ^ 31 by omega)) (ci := 12) rfl rfl rfl (hs.1 _ _ _ ⟨rfl, rfl⟩) rfl rfl rfl rfl ⟨Nat.le_refl _, Nat.le_refl _⟩ rfl dX12_scan_18 ?_
        rw [(show up μ 16 (nw (μ 16) 22 0 14 (nI i)) 16 30 0 = μ 16 30 0 by rw [up_s, nw_k (by decide)])]
        refine ca_bipush h dX12_scan_21 bk_10 ?_
        refine ca_icmp_ne (tgt := 39) h dX12_scan_23 (by decide) (fun c_23 => ?_) (fun c_23 => ?_)
        ·
          refine ca_pick [0] rfl ?_
          exact K_39 i (by rw [← hrn]; rfl)
        · exact absurd c_23 (by rw [t_at_e _ (by omega)]; decide)
    | succ jj ih_0 =>
      intro i hn hrn mm em
      have hn1 : i < e := by omega
      subst em
      refine ca_aload_nr h dX12_scan_0 rfl ?_
      refine ca_aload_nr h dX12_scan_1 rfl ?_
      refine gi_X12_286 h (hs.1 _ _ _ ⟨rfl, rfl⟩) dX12_scan_2 ?_
      rw [(show up μ 16 (nw (μ 16) 22 0 14 (nI i)) 16 22 0 14 = nI i by rw [up_s, nw_at, if_pos ⟨rfl, rfl, rfl⟩])]
      refine ca_vi h hG ml_X12_283 (c_X12_byteAt hs (by rw [up_s, nw_at, if_neg (by omega)]; exact he) h7 (show i < 2 ^ 31 by omega)) (ci := 12) rfl rfl rfl (hs.1 _ _ _ ⟨rfl, rfl⟩) rfl rfl rfl rfl ⟨Nat.le_refl _, Nat.le_refl _⟩ rfl dX12_scan_5 ?_
      rw [(show up μ 16 (nw (μ 16) 22 0 14 (nI i)) 16 30 0 = μ 16 30 0 by rw [up_s, nw_k (by decide)])]
      refine ca_bipush h dX12_scan_8 bk_32 ?_
      refine ca_icmp_eq (tgt := 26) h dX12_scan_10 (by decide) (fun c_10 => ?_) (fun c_10 => ?_)
      ·
        refine ca_aload_nr h dX12_scan_26 rfl ?_
        refine ca_dup h dX12_scan_27 rfl ?_
        refine gi_X12_286 h (hs.1 _ _ _ ⟨rfl, rfl⟩) dX12_scan_28 ?_
        refine ca_iconst h dX12_scan_31 ik_1 ?_
        refine ca_iadd h dX12_scan_32 ?_
        refine pi_X12_286 h (hs.1 _ _ _ ⟨rfl, rfl⟩) dX12_scan_33 ?_
        refine ca_goto (tgt := 0) h dX12_scan_36 (by decide) ?_
        refine ca_pick [0] rfl ?_
        exact ih_0 (i + 1) (by omega) (by rw [← hrn, t_rn_s, if_pos ((t_k3 _ _ _).mpr (Or.inl c_10))]) _ (by rw [ch_st_nw, up_s, up_up, nw_at, if_pos ⟨rfl, rfl, rfl⟩, nI_1, nw_nw])
      ·
        refine ca_aload_nr h dX12_scan_13 rfl ?_
        refine ca_aload_nr h dX12_scan_14 rfl ?_
        refine gi_X12_286 h (hs.1 _ _ _ ⟨rfl, rfl⟩) dX12_scan_15 ?_
        rw [(show up μ 16 (nw (μ 16) 22 0 14 (nI i)) 16 22 0 14 = nI i by rw [up_s, nw_at, if_pos ⟨rfl, rfl, rfl⟩])]
        refine ca_vi h hG ml_X12_283 (c_X12_byteAt hs (by rw [up_s, nw_at, if_neg (by omega)]; exact he) h7 (show i < 2 ^ 31 by omega)) (ci := 12) rfl rfl rfl (hs.1 _ _ _ ⟨rfl, rfl⟩) rfl rfl rfl rfl ⟨Nat.le_refl _, Nat.le_refl _⟩ rfl dX12_scan_18 ?_
        rw [(show up μ 16 (nw (μ 16) 22 0 14 (nI i)) 16 30 0 = μ 16 30 0 by rw [up_s, nw_k (by decide)])]
        refine ca_bipush h dX12_scan_21 bk_10 ?_
        refine ca_icmp_ne (tgt := 39) h dX12_scan_23 (by decide) (fun c_23 => ?_) (fun c_23 => ?_)
        ·
          refine ca_pick [0] rfl ?_
          have hk : ¬ t_k (μ 16 30 0) e i = 3 := fun z => ((t_k3 _ _ _).mp z).elim c_10 c_23
          exact K_39 i (by rw [← hrn, t_rn_s, if_neg hk])
        ·
          refine ca_aload_nr h dX12_scan_26 rfl ?_
          refine ca_dup h dX12_scan_27 rfl ?_
          refine gi_X12_286 h (hs.1 _ _ _ ⟨rfl, rfl⟩) dX12_scan_28 ?_
          refine ca_iconst h dX12_scan_31 ik_1 ?_
          refine ca_iadd h dX12_scan_32 ?_
          refine pi_X12_286 h (hs.1 _ _ _ ⟨rfl, rfl⟩) dX12_scan_33 ?_
          refine ca_goto (tgt := 0) h dX12_scan_36 (by decide) ?_
          refine ca_pick [0] rfl ?_
          exact ih_0 (i + 1) (by omega) (by rw [← hrn, t_rn_s, if_pos ((t_k3 _ _ _).mpr (Or.inr c_23))]) _ (by rw [ch_st_nw, up_s, up_up, nw_at, if_pos ⟨rfl, rfl, rfl⟩, nI_1, nw_nw])
  refine ca_pick [0] rfl ?_
  exact loop_0 (e - n) n (by omega) rfl _ (by rw [← hn0, nw_id, up_id])
