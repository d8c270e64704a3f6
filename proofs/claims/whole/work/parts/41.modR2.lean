/-! THE REFERENCE: a report; the levels measured -/
theorem r_bd {x K : Int32} {k : Nat} (hK : K = nI k) (h0 : ¬ x < 0) (h1 : ¬ K < x) : ∃ a, a ≤ k ∧ x = nI a := by
  obtain ⟨j, hj, rfl⟩ := nI_of h0
  refine ⟨j, Nat.le_of_not_lt fun z => h1 ?_, rfl⟩
  rw [hK]
  exact nI_lt z hj
theorem k_abs_c {a b : Nat} (ha : a ≤ 999) (hb : b ≤ 999) : ∃ d, d ≤ 999 ∧ k_abs (nI a - nI b) = nI d := by
  rcases Nat.le_total b a with h | h
  · refine ⟨a - b, by omega, ?_⟩
    rw [pk_sub h]
    unfold k_abs
    rw [if_pos (nI_pos' (by omega))]
  · refine ⟨b - a, by omega, ?_⟩
    rw [k_abs_sub, pk_sub h]
    unfold k_abs
    rw [if_pos (nI_pos' (by omega))]
theorem k_lv_b {n : ch_N} {w : Nat → Int32} (h : r_N n w) {c : Nat} (hc : c < k_cc n) {x y : Int32} (hx : ¬ x < 0 ∧ ¬ 999 < x) (hy : ¬ y < 0 ∧ ¬ 999 < y) : ¬ k_lv n c x y < 0 ∧ ¬ 99 < k_lv n c x y := by
  refine ⟨fun z => ?_, ?_⟩
  · have g := k_lv_nn n c x y
    have g1 := Int32.lt_iff_toInt_lt.mp g
    have g2 := Int32.lt_iff_toInt_lt.mp z
    have e1 : (-1 : Int32).toInt = -1 := by decide
    have e0 : (0 : Int32).toInt = 0 := by decide
    omega
  · obtain ⟨p1, p2, p3, p4, p5, p6, p7, p8⟩ := h.2.1.2.2 c hc
    obtain ⟨a0, h0, e0⟩ := r_bd (k := 999) (by decide) p1 p2
    obtain ⟨a1, h1, e1⟩ := r_bd (k := 999) (by decide) p3 p4
    obtain ⟨a2, h2, e2⟩ := r_bd (k := 99) (by decide) p5 p6
    obtain ⟨a3, h3, e3⟩ := r_bd (k := 50) (by decide) p7 p8
    obtain ⟨ax, hax, ex⟩ := r_bd (k := 999) (by decide) hx.1 hx.2
    obtain ⟨ay, hay, ey⟩ := r_bd (k := 999) (by decide) hy.1 hy.2
    obtain ⟨d1, hd1, g1⟩ := k_abs_c hax h0
    obtain ⟨d2, hd2, g2⟩ := k_abs_c hay h1
    unfold k_lv
    rw [e0, e1, e2, e3, ex, ey, g1, g2, nI_add, pk_mul, show (100 : Int32) = nI 100 from rfl]
    have hb : a3 * (d1 + d2) ≤ 50 * 1998 := Nat.mul_le_mul h3 (by omega)
    rw [pk_div (by omega) (by decide) (by decide)]
    unfold k_max
    rcases Nat.lt_or_ge a2 (a3 * (d1 + d2) / 100) with g | g
    · rw [if_neg (fun z => by
        have := pk_sneg (a := a2) (b := a3 * (d1 + d2) / 100) (by omega) g
        have g1 := Int32.lt_iff_toInt_lt.mp z
        have g2 := Int32.lt_iff_toInt_lt.mp this
        omega)]
      decide
    · rw [pk_sub g]
      split
      · exact nI_nlt (a := 99) (by omega) (by decide)
      · decide
/-- the reports of one cell changed on both sides -/
theorem r_N_rep {n n' : ch_N} {w w' : Nat → Int32} {m c q : Nat} (h : r_N n w) (hm : m < k_mc n) (ht : n 3 m 4 = 1) (hc : c < 8) (hq : q ≤ 8)
    (hk : ∀ kd, kd ≠ 4 → kd ≠ 5 → n' kd = n kd) (hn : ∀ kd i, i ≠ m → n' kd i = n kd i) (h5 : n' 5 m c = nI q) (h5' : ∀ d, d ≠ c → n' 5 m d = n 5 m d)
    (h4' : ∀ d k, d ≠ c → k < 8 → n' 4 m (8 * d + k) = n 4 m (8 * d + k)) (hw5 : w' (210 + 91 * m + (19 + c)) = nI q)
    (hw : ∀ j, j ≠ 210 + 91 * m + (19 + c) → ¬ (210 + 91 * m + (27 + 8 * c) ≤ j ∧ j < 210 + 91 * m + (27 + 8 * c) + 8) → w' j = w j)
    (hl : ∀ k, k < q → w' (210 + 91 * m + (27 + 8 * c + k)) = n' 4 m (8 * c + k) ∧ ¬ n' 4 m (8 * c + k) < 0 ∧ ¬ 99 < n' 4 m (8 * c + k)) (hwf : k_wf n') : r_N n' w' := by
  obtain ⟨a1, a2, a3, a4, a5, a6, a7, a8, a9, a10, a11, a12, a13, a14⟩ := h.2.2.2.2.1 m hm
  have e3 : n' 3 = n 3 := hk 3 (by decide) (by decide)
  have ec : k_cc n' = k_cc n := by unfold k_cc; rw [hk 0 (by decide) (by decide)]
  refine r_N_mob h hm (fun kd _ h4 h5 _ => hk kd h4 h5) hn (fun j hj => hw j (by omega) (by omega)) ?_ hwf
  unfold r_M
  rw [e3, hk 6 (by decide) (by decide), hk 2 (by decide) (by decide), ec]
  refine ⟨fun f hf => by rw [hw _ (by omega) (by omega)]; exact a1 f hf, by rw [hw _ (by omega) (by omega)]; exact a2, fun _ => ⟨by rw [hw _ (by omega) (by omega)]; exact (a3 ht).1, fun d hd => ?_⟩, fun hr => ⟨by rw [hw _ (by omega) (by omega)]; exact (a4 hr).1, by rw [hw _ (by omega) (by omega)]; exact (a4 hr).2⟩, a5, a6, fun z => absurd ht z, a8, a9, a10, a11, a12, a13, fun _ d k hd hk => ?_⟩
  · obtain ⟨b1, b2, b3⟩ := (a3 ht).2 d hd
    by_cases e : d = c
    · subst e
      exact ⟨by rw [hw _ (by omega) (by omega)]; exact b1, by rw [hw5, h5], fun k hk => (hl k (by rw [h5, nI_clamp (by omega)] at hk; exact hk)).1⟩
    · refine ⟨by rw [hw _ (by omega) (by omega)]; exact b1, by rw [hw _ (by omega) (by omega), h5' d e]; exact b2, fun k hk => ?_⟩
      rw [h5' d e] at hk
      have hk8 : k < 8 := Nat.lt_of_lt_of_le hk (r_c58 h (show m < 13 by have := r_m12 h hm; omega) hd).2
      rw [hw _ (by omega) (by omega), h4' d k e hk8]
      exact b3 k hk
  · by_cases e : d = c
    · subst e
      exact (hl k (by rw [h5, nI_clamp (by omega)] at hk; exact hk)).2
    · rw [h5' d e] at hk
      have hk8 : k < 8 := Nat.lt_of_lt_of_le hk (r_c58 h (show m < 13 by have := r_m12 h hm; omega) hd).2
      rw [h4' d k e hk8]
      exact a14 ht d k hd hk
def r_sh (w : Nat → Int32) (a j : Nat) : Nat → Int32 := fun i => if a ≤ i ∧ i < a + j then w (i + 1) else w i
theorem r_sh_0 (w : Nat → Int32) (a : Nat) : r_sh w a 0 = w := by funext i; unfold r_sh; rw [if_neg (by omega)]
theorem r_sh_s (w : Nat → Int32) (a j : Nat) : up (r_sh w a j) (a + j) (r_sh w a j (a + (j + 1))) = r_sh w a (j + 1) := by
  funext i
  by_cases e : i = a + j
  · subst e; rw [up_s]; unfold r_sh; rw [if_neg (by omega), if_pos (by omega)]; rfl
  · rw [up_n e]; unfold r_sh
    by_cases g : a ≤ i ∧ i < a + j
    · rw [if_pos g, if_pos (by omega)]
    · rw [if_neg g, if_neg (by omega)]
/-- one more report, as the two sides keep it -/
theorem r_N_add {n : ch_N} {w : Nat → Int32} {m c cnt W : Nat} {v : Int32} (h : r_N n w) (hm : m < k_mc n) (ht : n 3 m 4 = 1) (hc : c < 8) (hv : ¬ v < 0 ∧ ¬ 99 < v) (e5 : n 5 m c = nI cnt) (eW : n 0 0 4 = nI W) (hW : W ≤ 8) (hcW : cnt ≤ W) :
    (cnt < W → r_N (k_add n m c v (Int32.toNatClampNeg (n 0 0 4))) (up (up w (210 + 91 * m + (27 + 8 * c + cnt)) v) (210 + 91 * m + (19 + c)) (nI (cnt + 1)))) ∧
    (∀ p, cnt = p + 1 → cnt = W → r_N (k_add n m c v (Int32.toNatClampNeg (n 0 0 4))) (up (up (r_sh w (210 + 91 * m + (27 + 8 * c)) p) (210 + 91 * m + (27 + 8 * c + p)) v) (210 + 91 * m + (19 + c)) (nI (p + 1)))) := by
  have hm12 := r_m12 h hm
  have hwf := k_add_wf (i := m) (c := c) h.2.2.2.2.2 (by omega) hc v
  have hlv : ∀ k, k < cnt → w (210 + 91 * m + (27 + 8 * c + k)) = n 4 m (8 * c + k) ∧ ¬ n 4 m (8 * c + k) < 0 ∧ ¬ 99 < n 4 m (8 * c + k) := fun k hk => ⟨r_lv h hm ht hc (by rw [e5, nI_clamp (by omega)]; exact hk), (h.2.2.2.2.1 m hm).2.2.2.2.2.2.2.2.2.2.2.2.2 ht c k hc (by rw [e5, nI_clamp (by omega)]; exact hk)⟩
  have eq : k_add n m c v (Int32.toNatClampNeg (n 0 0 4)) = if cnt < W then nw (nw n 4 m (8 * c + cnt) v) 5 m c (nI (cnt + 1)) else nw (nw (k_drp n m (8 * c) cnt) 4 m (8 * c + (cnt - 1)) v) 5 m c (nI (cnt - 1 + 1)) := by
    unfold k_add
    rw [e5, eW, nI_clamp (by omega), nI_clamp (by omega), nI_1, nI_1]
  refine ⟨fun hlt => ?_, fun p hp hWe => ?_⟩
  · rw [eq, if_pos hlt] at hwf ⊢
    refine r_N_rep h hm ht hc (q := cnt + 1) (by omega) (fun kd h4 h5 => by rw [nw_k h5, nw_k h4]) (fun kd i hi => ?_) (by rw [nw_at, if_pos ⟨rfl, rfl, rfl⟩]) (fun d hd => by rw [nw_at, if_neg (fun z => hd z.2.2), nw_k (by decide)]) (fun d k hd hk => by rw [nw_k (by decide), nw_at, if_neg (by omega)]) (up_s _ _ _) (fun j h1 h2 => by rw [up_n h1, up_n (by omega)]) (fun k hk => ?_) hwf
    · funext j
      simp [nw_at, hi]
    · rw [up_n (by omega), nw_k (by decide), nw_at]
      by_cases e : k = cnt
      · subst e; rw [up_s, if_pos ⟨rfl, rfl, rfl⟩]; exact ⟨rfl, hv⟩
      · rw [up_n (by omega), if_neg (by omega)]; exact hlv k (by omega)
  · subst hp
    rw [eq, if_neg (by omega), Nat.add_sub_cancel] at hwf ⊢
    have ed : k_drp n m (8 * c) (p + 1) = na n 4 m (fun t => if 8 * c ≤ t ∧ t < 8 * c + p then n 4 m (t + 1) else n 4 m t) := rfl
    rw [ed] at hwf ⊢
    refine r_N_rep h hm ht hc (q := p + 1) (by omega) (fun kd h4 h5 => by rw [nw_k h5, nw_k h4, na_k h4]) (fun kd i hi => ?_) (by rw [nw_at, if_pos ⟨rfl, rfl, rfl⟩]) (fun d hd => by rw [nw_at, if_neg (fun z => hd z.2.2), nw_k (by decide), na_k (by decide)]) (fun d k hd hk => by rw [nw_k (by decide), nw_at, if_neg (by omega), na_at, if_pos ⟨rfl, rfl⟩, if_neg (by omega)]) (up_s _ _ _) (fun j h1 h2 => by rw [up_n h1, up_n (by omega)]; unfold r_sh; rw [if_neg (by omega)]) (fun k hk => ?_) hwf
    · funext j
      simp [nw_at, na_at, hi]
    · rw [up_n (by omega), nw_k (by decide), nw_at]
      by_cases e : k = p
      · subst e; rw [up_s, if_pos ⟨rfl, rfl, rfl⟩]; exact ⟨rfl, hv⟩
      · rw [up_n (by omega), if_neg (by omega), na_at, if_pos ⟨rfl, rfl⟩, if_pos (by omega)]
        unfold r_sh
        rw [if_pos (by omega)]
        exact hlv (k + 1) (by omega)
theorem k_crp_c {n : ch_N} {m c : Nat} (hc : c < 8) : k_crp n m (nI c) = nw n 5 m c 0 := by
  unfold k_crp
  rw [if_neg (nI_pos (by omega)), if_pos (show nI c < 8 from nI_lt (b := 8) hc (by decide)), nI_clamp (by omega)]
theorem r_N_crp {n : ch_N} {w : Nat → Int32} {m c : Nat} (h : r_N n w) (hm : m < k_mc n) (ht : n 3 m 4 = 1) (hc : c < 8) : r_N (k_crp n m (nI c)) (up w (210 + 91 * m + (19 + c)) 0) := by
  have hwf := k_crp_wf h.2.2.2.2.2 m (nI c)
  rw [k_crp_c hc] at hwf ⊢
  refine r_N_rep h hm ht hc (q := 0) (by omega) (fun kd h4 h5 => nw_k h5) (fun kd i hi => ?_) (by rw [nw_at, if_pos ⟨rfl, rfl, rfl⟩]; rfl) (fun d hd => by rw [nw_at, if_neg (fun z => hd z.2.2)]) (fun d k hd hk => by rw [nw_k (by decide)]) (up_s _ _ _) (fun j h1 h2 => up_n h1) (fun k hk => absurd hk (Nat.not_lt_zero _)) hwf
  funext j
  simp [nw_at, hi]
set_option maxHeartbeats 100000 in
theorem c_X12_report {l : Launch} {E : ch_E} {S : ch_S} {μ : ch_M} (hs : ch_Std E S) {n : ch_N} (hN : r_N n (μ 16 23 0)) {m : Nat} (hm : m < k_mc n) (ht : n 3 m 4 = 1) {c : Nat} (hc : c < k_cc n) {v : Int32} (hv : ¬ v < 0 ∧ ¬ 99 < v) : ch_C E l yX12_report cX12_report 6 none 3 0 0 S μ [.ref (S.1 16 22 0), .int (nI m), .int (nI c), .int v] (r_X (k_add n m c v (Int32.toNatClampNeg (n 0 0 4))) S μ) := by
  refine ch_enter rfl rfl ?_
  intro X hl0 h hG hR hnm
  have h : ch_H X E RX12 cX12_report 6 := h
  have hm12 := r_m12 hN hm
  have hc8 := r_c8 hN hc
  obtain ⟨k1, k2, k3, k4, k5, k6⟩ := hN.2.2.2.2.2
  obtain ⟨cnt, hcnt, e5⟩ := nI_of (k6 m c (by omega) hc8).1
  obtain ⟨W, hWb, eW⟩ := nI_of k3
  have hcW := (k6 m c (by omega) hc8).2.2 hm
  rw [e5, eW, nI_clamp hcnt, nI_clamp hWb] at hcW
  rw [eW, nI_clamp hWb] at k4 k5
  obtain ⟨hA, hB⟩ := r_N_add hN hm ht hc8 hv e5 eW k5 hcW
  show ch_W X E 6 S μ 0 0 0 [(0, .ref (S.1 16 22 0)), (1, .int (nI m)), (2, .int (nI c)), (3, .int v)] []
  refine ca_aload_nr h dX12_report_0 rfl ?_
  refine ca_iload_n h dX12_report_1 rfl ?_
  refine ca_iload_n h dX12_report_2 rfl ?_
  refine ca_vi h hG ml_X12_154 (c_X12_reportsOf hs (by omega) (by omega)) (ci := 12) rfl rfl rfl (hs.1 _ _ _ ⟨rfl, rfl⟩) rfl rfl rfl rfl ⟨Nat.le_refl _, Nat.le_refl _⟩ rfl dX12_report_3 ?_
  rw [r_ct hN hm ht hc8, e5]
  refine ca_istore h dX12_report_6 rfl ?_
  refine ca_iload h dX12_report_8 rfl ?_
  refine ca_aload_nr h dX12_report_10 rfl ?_
  refine gs_X12_9 h hs ⟨rfl, rfl⟩ dX12_report_11 ?_
  refine ca_iconst h dX12_report_14 ik_4 ?_
  refine ca_iald h rfl (hs.1 _ _ _ ⟨rfl, rfl⟩) (vp_in_nI (n := 4) (N := 1302) (by decide) (by decide)) dX12_report_15 ?_
  refine ca_top (show _ = nI W by rw [show Int32.toNatClampNeg 4 = 4 from rfl, hN.1 4 (by decide), eW]) ?_
  refine ca_mem (r_wr_id μ).symm ?_
  refine ca_icmp_ne (tgt := 70) h dX12_report_16 (by decide) (fun c_16 => ?_) (fun c_16 => ?_)
  ·
    have hlt : cnt < W := by rcases Nat.lt_or_ge cnt W with z | z; exact z; exact absurd (congrArg nI (Nat.le_antisymm hcW z)) c_16
    refine ca_aload_nr h dX12_report_70 rfl ?_
    refine ca_iload_n h dX12_report_71 rfl ?_
    refine ca_bipush h dX12_report_72 bk_27 ?_
    refine ca_bipush h dX12_report_74 bk_8 ?_
    refine ca_iload_n h dX12_report_76 rfl ?_
    refine ca_imul h dX12_report_77 ?_
    refine ca_iadd h dX12_report_78 ?_
    refine ca_iload h dX12_report_79 rfl ?_
    refine ca_iadd h dX12_report_81 ?_
    refine ca_top (show _ = nI (27 + 8 * c + cnt) by rw [show (27 : Int32) = nI 27 from rfl, show (8 : Int32) = nI 8 from rfl, pk_mul, nI_add, nI_add]) ?_
    refine ca_iload_n h dX12_report_82 rfl ?_
    refine ca_vv h hG ml_X12_147 (c_X12_put hs hm12 (by omega)) (ci := 12) rfl rfl rfl (hs.1 _ _ _ ⟨rfl, rfl⟩) rfl rfl rfl rfl ⟨Nat.le_refl _, Nat.le_refl _⟩ rfl dX12_report_83 ?_
    refine ca_aload_nr h dX12_report_86 rfl ?_
    refine ca_iload_n h dX12_report_87 rfl ?_
    refine ca_bipush h dX12_report_88 bk_19 ?_
    refine ca_iload_n h dX12_report_90 rfl ?_
    refine ca_iadd h dX12_report_91 ?_
    refine ca_top (show _ = nI (19 + c) by rw [show (19 : Int32) = nI 19 from rfl, nI_add]) ?_
    refine ca_iload h dX12_report_92 rfl ?_
    refine ca_iconst h dX12_report_94 ik_1 ?_
    refine ca_iadd h dX12_report_95 ?_
    refine ca_top (show _ = nI (cnt + 1) by rw [nI_1]) ?_
    refine ca_vv h hG ml_X12_147 (c_X12_put hs hm12 (by omega)) (ci := 12) rfl rfl rfl (hs.1 _ _ _ ⟨rfl, rfl⟩) rfl rfl rfl rfl ⟨Nat.le_refl _, Nat.le_refl _⟩ rfl dX12_report_96 ?_
    refine ca_vreturn h hR dX12_report_99 ?_
    exact ⟨rfl, rfl, _, by simp only [r_wr_put, r_wr_at, r_wr_wr], hA hlt⟩
  ·
    have c9 : cnt = W := (nI_eq hcnt hWb).mp c_16
    obtain ⟨p, hp⟩ : ∃ p, cnt = p + 1 := ⟨cnt - 1, by omega⟩
    refine ca_iconst h dX12_report_19 ik_1 ?_
    refine ca_istore h dX12_report_20 rfl ?_
    have loop_22 : ∀ (jj j : Nat), j + jj = p → ∀ (x5 : Int32) (e5 : x5 = nI (j + 1)) (mm : ch_M) (em : mm = r_wr μ (r_sh (μ 16 23 0) (210 + 91 * m + (27 + 8 * c)) j)), ch_W X E 6 S mm 0 0 22 [(0, .ref (S.1 16 22 0)), (1, .int (nI m)), (2, .int (nI c)), (3, .int v), (4, .int (nI cnt)), (5, .int x5)] [] := by
      intro jj
      induction jj with
      | zero =>
        intro j hn x5 e5 mm em
        have hn : j = p := by omega
        subst e5 em
        refine ca_iload h dX12_report_22 rfl ?_
        refine ca_iload h dX12_report_24 rfl ?_
        refine ca_icmp_ge (tgt := 67) h dX12_report_26 (by decide) (fun c_26 => ?_) (fun c_26 => ?_)
        ·
          refine ca_iinc h dX12_report_67 rfl ik_m1 rfl ?_
          refine ca_aload_nr h dX12_report_70 rfl ?_
          refine ca_iload_n h dX12_report_71 rfl ?_
          refine ca_bipush h dX12_report_72 bk_27 ?_
          refine ca_bipush h dX12_report_74 bk_8 ?_
          refine ca_iload_n h dX12_report_76 rfl ?_
          refine ca_imul h dX12_report_77 ?_
          refine ca_iadd h dX12_report_78 ?_
          refine ca_iload h dX12_report_79 rfl ?_
          refine ca_iadd h dX12_report_81 ?_
          refine ca_top (show _ = nI (27 + 8 * c + p) by rw [show nI cnt + (-1) = nI p by rw [hp]; exact pk_m1 p, show (27 : Int32) = nI 27 from rfl, show (8 : Int32) = nI 8 from rfl, pk_mul, nI_add, nI_add]) ?_
          refine ca_iload_n h dX12_report_82 rfl ?_
          refine ca_vv h hG ml_X12_147 (c_X12_put hs hm12 (by omega)) (ci := 12) rfl rfl rfl (hs.1 _ _ _ ⟨rfl, rfl⟩) rfl rfl rfl rfl ⟨Nat.le_refl _, Nat.le_refl _⟩ rfl dX12_report_83 ?_
          refine ca_aload_nr h dX12_report_86 rfl ?_
          refine ca_iload_n h dX12_report_87 rfl ?_
          refine ca_bipush h dX12_report_88 bk_19 ?_
          refine ca_iload_n h dX12_report_90 rfl ?_
          refine ca_iadd h dX12_report_91 ?_
          refine ca_top (show _ = nI (19 + c) by rw [show (19 : Int32) = nI 19 from rfl, nI_add]) ?_
          refine ca_iload h dX12_report_92 rfl ?_
          refine ca_iconst h dX12_report_94 ik_1 ?_
          refine ca_iadd h dX12_report_95 ?_
          refine ca_top (show _ = nI (p + 1) by rw [hp, pk_m1, nI_1]) ?_
          refine ca_vv h hG ml_X12_147 (c_X12_put hs hm12 (by omega)) (ci := 12) rfl rfl rfl (hs.1 _ _ _ ⟨rfl, rfl⟩) rfl rfl rfl rfl ⟨Nat.le_refl _, Nat.le_refl _⟩ rfl dX12_report_96 ?_
          refine ca_vreturn h hR dX12_report_99 ?_
          exact ⟨rfl, rfl, _, by simp only [r_wr_put, r_wr_at, r_wr_wr]; rw [hn], hB p hp c9⟩
        · exact absurd c_26 (nI_nlt (by omega) (by omega))
      | succ jj ih_22 =>
        intro j hn x5 e5 mm em
        have hn1 : j < p := by omega
        subst e5 em
        refine ca_iload h dX12_report_22 rfl ?_
        refine ca_iload h dX12_report_24 rfl ?_
        refine ca_icmp_ge (tgt := 67) h dX12_report_26 (by decide) (fun c_26 => ?_) (fun c_26 => ?_)
        · exact absurd (nI_lt (by omega) (by omega)) c_26
        ·
          refine ca_aload_nr h dX12_report_29 rfl ?_
          refine ca_iload_n h dX12_report_30 rfl ?_
          refine ca_bipush h dX12_report_31 bk_27 ?_
          refine ca_bipush h dX12_report_33 bk_8 ?_
          refine ca_iload_n h dX12_report_35 rfl ?_
          refine ca_imul h dX12_report_36 ?_
          refine ca_iadd h dX12_report_37 ?_
          refine ca_iload h dX12_report_38 rfl ?_
          refine ca_iadd h dX12_report_40 ?_
          refine ca_iconst h dX12_report_41 ik_1 ?_
          refine ca_isub h dX12_report_42 ?_
          refine ca_top (show _ = nI (27 + 8 * c + j) by rw [show (27 : Int32) = nI 27 from rfl, show (8 : Int32) = nI 8 from rfl, pk_mul, nI_add, nI_add]; exact nI_pred (27 + 8 * c + j)) ?_
          refine ca_aload_nr h dX12_report_43 rfl ?_
          refine ca_iload_n h dX12_report_44 rfl ?_
          refine ca_bipush h dX12_report_45 bk_27 ?_
          refine ca_bipush h dX12_report_47 bk_8 ?_
          refine ca_iload_n h dX12_report_49 rfl ?_
          refine ca_imul h dX12_report_50 ?_
          refine ca_iadd h dX12_report_51 ?_
          refine ca_iload h dX12_report_52 rfl ?_
          refine ca_iadd h dX12_report_54 ?_
          refine ca_top (show _ = nI (27 + 8 * c + (j + 1)) by rw [show (27 : Int32) = nI 27 from rfl, show (8 : Int32) = nI 8 from rfl, pk_mul, nI_add, nI_add]) ?_
          refine ca_vi h hG ml_X12_77 (c_X12_of hs hm12 (by omega)) (ci := 12) rfl rfl rfl (hs.1 _ _ _ ⟨rfl, rfl⟩) rfl rfl rfl rfl ⟨Nat.le_refl _, Nat.le_refl _⟩ rfl dX12_report_55 ?_
          refine ca_vv h hG ml_X12_147 (c_X12_put hs hm12 (by omega)) (ci := 12) rfl rfl rfl (hs.1 _ _ _ ⟨rfl, rfl⟩) rfl rfl rfl rfl ⟨Nat.le_refl _, Nat.le_refl _⟩ rfl dX12_report_58 ?_
          refine ca_iinc h dX12_report_61 rfl ik_1 rfl ?_
          refine ca_goto (tgt := 22) h dX12_report_64 (by decide) ?_
          refine ca_pick [1, 2, 3, 4, 5, 0] rfl ?_
          exact ih_22 (j + 1) (by omega) _ (nI_1 (j + 1)) _ (by simp only [r_wr_put, r_wr_at, r_wr_wr]; have e9 := r_sh_s (μ 16 23 0) (210 + 91 * m + (27 + 8 * c)) j; simp only [Nat.add_assoc] at e9 ⊢; rw [e9])
    refine ca_pick [2, 3, 4, 5, 1, 0] rfl ?_
    exact loop_22 _ 0 (Nat.zero_add _) _ rfl _ (by rw [r_sh_0])
theorem k_ms1_k (m c : Nat) (n : ch_N) {kd : Nat} (h4 : kd ≠ 4) (h5 : kd ≠ 5) : (k_ms1 m c n) kd = n kd := by
  unfold k_ms1
  split
  · unfold k_add k_drp
    split
    · rw [nw_k h5, nw_k h4]
    · rw [nw_k h5, nw_k h4, na_k h4]
  · unfold k_crp
    split
    · rfl
    · split
      · exact nw_k h5
      · rfl
theorem k_msL_k (m N : Nat) (n : ch_N) {kd : Nat} (h4 : kd ≠ 4) (h5 : kd ≠ 5) : (kf (k_ms1 m) N n) kd = n kd := by
  induction N with
  | zero => rfl
  | succ N ih => rw [kf_s, k_ms1_k m N _ h4 h5, ih]
set_option maxHeartbeats 100000 in
theorem c_X12_measure {l : Launch} {E : ch_E} {S : ch_S} {μ : ch_M} (hs : ch_Std E S) {n : ch_N} (hN : r_N n (μ 16 23 0)) {m : Nat} (hm : m < k_mc n) (ht : n 3 m 4 = 1) : ch_C E l yX12_measure cX12_measure 4 none 4 0 0 S μ [.ref (S.1 16 22 0), .int (nI m)] (r_X (k_ms n m) S μ) := by
  refine ch_enter rfl rfl ?_
  intro X hl0 h hG hR hnm
  have h : ch_H X E RX12 cX12_measure 4 := h
  have hm12 := r_m12 hN hm
  obtain ⟨s, hsc, h5⟩ := r_sv hN hm ht
  have hs8 := r_c8 hN hsc
  have hcc := hN.2.2.2.2.2.2.1
  have hxy := (hN.2.2.2.2.1 m hm).2.2.2.2.2.2.2.2.2.2.2.2.1
  show ch_W X E 4 S μ 0 0 0 [(0, .ref (S.1 16 22 0)), (1, .int (nI m))] []
  refine ca_aload_nr h dX12_measure_0 rfl ?_
  refine ca_iload_n h dX12_measure_1 rfl ?_
  refine ca_iconst h dX12_measure_2 ik_5 ?_
  refine ca_vi h hG ml_X12_77 (c_X12_of hs (f := 5) (by omega) (by decide)) (ci := 12) rfl rfl rfl (hs.1 _ _ _ ⟨rfl, rfl⟩) rfl rfl rfl rfl ⟨Nat.le_refl _, Nat.le_refl _⟩ rfl dX12_measure_3 ?_
  rw [r_f hN hm (f := 5) (by decide), h5]
  refine ca_mem (r_wr_id μ).symm ?_
  refine ca_istore_n h dX12_measure_6 rfl ?_
  refine ca_iconst h dX12_measure_7 ik_0 ?_
  refine ca_istore_n h dX12_measure_8 rfl ?_
  have loop_9 : ∀ (jj j : Nat), j + jj = k_cc n → ∀ (x3 : Int32) (e3 : x3 = nI j) (w : Nat → Int32) (hNj : r_N (kf (k_ms1 m) j n) w) (mm : ch_M) (em : mm = r_wr μ w), ch_W X E 4 S mm 0 0 9 [(0, .ref (S.1 16 22 0)), (1, .int (nI m)), (2, .int (nI s)), (3, .int x3)] [] := by
    intro jj
    induction jj with
    | zero =>
      intro j hn x3 e3 w hNj mm em
      have hn : j = k_cc n := by omega
      subst e3 em
      obtain ⟨nj, hnj⟩ : ∃ z, z = kf (k_ms1 m) j n := ⟨_, rfl⟩
      rw [← hnj] at hNj
      have ek : ∀ kd, kd ≠ 4 → kd ≠ 5 → nj kd = n kd := fun kd h4 h5 => by rw [hnj]; exact k_msL_k m j n h4 h5
      have e3 : nj 3 = n 3 := ek 3 (by decide) (by decide)
      have e2 : nj 2 = n 2 := ek 2 (by decide) (by decide)
      have ecc : k_cc nj = k_cc n := by unfold k_cc; rw [ek 0 (by decide) (by decide)]
      have emm : k_mc nj = k_mc n := by unfold k_mc; rw [ek 0 (by decide) (by decide)]
      refine ca_iload_n h dX12_measure_9 rfl ?_
      refine ca_aload_nr h dX12_measure_10 rfl ?_
      refine gs_X12_9 h hs ⟨rfl, rfl⟩ dX12_measure_11 ?_
      refine ca_iconst h dX12_measure_14 ik_0 ?_
      refine ca_iald h rfl (hs.1 _ _ _ ⟨rfl, rfl⟩) (vp_in_nI (n := 0) (N := 1302) (by decide) (by decide)) dX12_measure_15 ?_
      refine ca_icmp_ge (tgt := 64) h dX12_measure_16 (by decide) (fun c_16 => ?_) (fun c_16 => ?_)
      ·
        refine ca_vreturn h hR dX12_measure_64 ?_
        exact ⟨rfl, rfl, w, rfl, by unfold k_ms; rw [← hn, ← hnj]; exact hNj⟩
      · exact absurd c_16 (by rw [r_wr_at]; exact lt_no (show k_cc n = Int32.toNatClampNeg (w (Int32.toNatClampNeg 0)) from ecc.symm.trans (r_cc hNj)) hn)
    | succ jj ih_9 =>
      intro j hn x3 e3 w hNj mm em
      have hn1 : j < k_cc n := by omega
      subst e3 em
      obtain ⟨nj, hnj⟩ : ∃ z, z = kf (k_ms1 m) j n := ⟨_, rfl⟩
      rw [← hnj] at hNj
      have hj8 : j < 8 := by omega
      have ek : ∀ kd, kd ≠ 4 → kd ≠ 5 → nj kd = n kd := fun kd h4 h5 => by rw [hnj]; exact k_msL_k m j n h4 h5
      have e3 : nj 3 = n 3 := ek 3 (by decide) (by decide)
      have e2 : nj 2 = n 2 := ek 2 (by decide) (by decide)
      have ecc : k_cc nj = k_cc n := by unfold k_cc; rw [ek 0 (by decide) (by decide)]
      have emm : k_mc nj = k_mc n := by unfold k_mc; rw [ek 0 (by decide) (by decide)]
      refine ca_iload_n h dX12_measure_9 rfl ?_
      refine ca_aload_nr h dX12_measure_10 rfl ?_
      refine gs_X12_9 h hs ⟨rfl, rfl⟩ dX12_measure_11 ?_
      refine ca_iconst h dX12_measure_14 ik_0 ?_
      refine ca_iald h rfl (hs.1 _ _ _ ⟨rfl, rfl⟩) (vp_in_nI (n := 0) (N := 1302) (by decide) (by decide)) dX12_measure_15 ?_
      refine ca_icmp_ge (tgt := 64) h dX12_measure_16 (by decide) (fun c_16 => ?_) (fun c_16 => ?_)
      · exact absurd (by rw [r_wr_at]; exact lt_yes (show k_cc n = Int32.toNatClampNeg (w (Int32.toNatClampNeg 0)) from ecc.symm.trans (r_cc hNj)) hn1) c_16
      ·
        refine ca_iload_n h dX12_measure_19 rfl ?_
        refine ca_iload_n h dX12_measure_20 rfl ?_
        refine ca_icmp_eq (tgt := 33) h dX12_measure_21 (by decide) (fun c_21 => ?_) (fun c_21 => ?_)
        ·
          have hyes : nI j = nj 3 m 5 ∨ ¬ nj 2 (k_rx (nj 3 m 5) (nI j)) 0 = 0 := Or.inl (by rw [e3, h5]; exact c_21)
          refine ca_aload_nr h dX12_measure_33 rfl ?_
          refine ca_iload_n h dX12_measure_34 rfl ?_
          refine ca_iload_n h dX12_measure_35 rfl ?_
          refine ca_aload_nr h dX12_measure_36 rfl ?_
          refine ca_iload_n h dX12_measure_37 rfl ?_
          refine ca_iload_n h dX12_measure_38 rfl ?_
          refine ca_vi h hG ml_X12_157 (c_X12_levelFor hs (n := nj) (by rw [r_wr_at]; exact hNj) (by rw [ecc]; exact hn1) (by rw [emm]; exact hm)) (ci := 12) rfl rfl rfl (hs.1 _ _ _ ⟨rfl, rfl⟩) rfl rfl rfl rfl ⟨Nat.le_refl _, Nat.le_refl _⟩ rfl dX12_measure_39 ?_
          refine ca_vXv h hG ml_X12_160 (c_X12_report hs (n := nj) (by rw [r_wr_at]; exact hNj) (by rw [emm]; exact hm) (by rw [e3]; exact ht) (by rw [ecc]; exact hn1) (by rw [e3]; exact k_lv_b hNj (by rw [ecc]; exact hn1) ⟨hxy.1, hxy.2.1⟩ hxy.2.2)) (ci := 12) rfl rfl rfl (hs.1 _ _ _ ⟨rfl, rfl⟩) rfl rfl rfl rfl ⟨Nat.le_refl _, Nat.le_refl _⟩ rfl dX12_measure_42 ?_
          intro μ9 hμ9
          obtain ⟨w2, rfl, hNw⟩ := hμ9
          refine ca_goto (tgt := 58) h dX12_measure_45 (by decide) ?_
          refine ca_iinc h dX12_measure_58 rfl ik_1 rfl ?_
          refine ca_goto (tgt := 9) h dX12_measure_61 (by decide) ?_
          refine ca_pick [1, 2, 3, 0] rfl ?_
          have e9 : kf (k_ms1 m) (j + 1) n = k_add nj m j (k_lv nj j (nj 3 m 0) (nj 3 m 1)) (Int32.toNatClampNeg (nj 0 0 4)) := by rw [kf_s, ← hnj]; unfold k_ms1; rw [if_pos hyes]
          exact ih_9 (j + 1) (by omega) _ (nI_1 j) w2 (by rw [e9]; exact hNw) _ (by rw [r_wr_wr])
        ·
          refine ca_aload_nr h dX12_measure_24 rfl ?_
          refine ca_iload_n h dX12_measure_25 rfl ?_
          refine ca_iload_n h dX12_measure_26 rfl ?_
          refine ca_vi h hG ml_X12_121 (c_X12_isNeighbour hs (by rw [r_wr_at]; exact r_24 hNj)) (ci := 12) rfl rfl rfl (hs.1 _ _ _ ⟨rfl, rfl⟩) rfl rfl rfl rfl ⟨Nat.le_refl _, Nat.le_refl _⟩ rfl dX12_measure_27 ?_
          refine ca_if_eq (tgt := 48) h dX12_measure_30 (by decide) (fun c_30 => ?_) (fun c_30 => ?_)
          ·
            have hno : ¬ (nI j = nj 3 m 5 ∨ ¬ nj 2 (k_rx (nj 3 m 5) (nI j)) 0 = 0) := by
              rw [e3, h5, r_rx hs8 hj8]
              rintro (z | z)
              · exact c_21 z
              · have y := of_decide_eq_false (bI_0.mp c_30)
                rw [r_wr_at] at y
                exact y (fun y2 => z ((r_nb hNj hs8 hj8).mp y2))
            refine ca_aload_nr h dX12_measure_48 rfl ?_
            refine ca_iload_n h dX12_measure_49 rfl ?_
            refine ca_bipush h dX12_measure_50 bk_19 ?_
            refine ca_iload_n h dX12_measure_52 rfl ?_
            refine ca_iadd h dX12_measure_53 ?_
            refine ca_top (show _ = nI (19 + j) by rw [show (19 : Int32) = nI 19 from rfl, nI_add]) ?_
            refine ca_iconst h dX12_measure_54 ik_0 ?_
            refine ca_vv h hG ml_X12_147 (c_X12_put hs hm12 (by omega)) (ci := 12) rfl rfl rfl (hs.1 _ _ _ ⟨rfl, rfl⟩) rfl rfl rfl rfl ⟨Nat.le_refl _, Nat.le_refl _⟩ rfl dX12_measure_55 ?_
            refine ca_iinc h dX12_measure_58 rfl ik_1 rfl ?_
            refine ca_goto (tgt := 9) h dX12_measure_61 (by decide) ?_
            refine ca_pick [1, 2, 3, 0] rfl ?_
            have e9 : kf (k_ms1 m) (j + 1) n = k_crp nj m (nI j) := by rw [kf_s, ← hnj]; unfold k_ms1; rw [if_neg hno]
            exact ih_9 (j + 1) (by omega) _ (nI_1 j) (up w (210 + 91 * m + (19 + j)) 0) (by rw [e9]; exact r_N_crp hNj (by rw [emm]; exact hm) (by rw [e3]; exact ht) hj8) _ (by simp only [r_wr_put, r_wr_at, r_wr_wr])
          ·
            have hyes : nI j = nj 3 m 5 ∨ ¬ nj 2 (k_rx (nj 3 m 5) (nI j)) 0 = 0 := Or.inr (by have z := of_decide_eq_true (bI_n0.mp c_30); rw [r_wr_at] at z; rw [e3, h5, r_rx hs8 hj8]; exact fun y => z ((r_nb hNj hs8 hj8).mpr y))
            refine ca_aload_nr h dX12_measure_33 rfl ?_
            refine ca_iload_n h dX12_measure_34 rfl ?_
            refine ca_iload_n h dX12_measure_35 rfl ?_
            refine ca_aload_nr h dX12_measure_36 rfl ?_
            refine ca_iload_n h dX12_measure_37 rfl ?_
            refine ca_iload_n h dX12_measure_38 rfl ?_
            refine ca_vi h hG ml_X12_157 (c_X12_levelFor hs (n := nj) (by rw [r_wr_at]; exact hNj) (by rw [ecc]; exact hn1) (by rw [emm]; exact hm)) (ci := 12) rfl rfl rfl (hs.1 _ _ _ ⟨rfl, rfl⟩) rfl rfl rfl rfl ⟨Nat.le_refl _, Nat.le_refl _⟩ rfl dX12_measure_39 ?_
            refine ca_vXv h hG ml_X12_160 (c_X12_report hs (n := nj) (by rw [r_wr_at]; exact hNj) (by rw [emm]; exact hm) (by rw [e3]; exact ht) (by rw [ecc]; exact hn1) (by rw [e3]; exact k_lv_b hNj (by rw [ecc]; exact hn1) ⟨hxy.1, hxy.2.1⟩ hxy.2.2)) (ci := 12) rfl rfl rfl (hs.1 _ _ _ ⟨rfl, rfl⟩) rfl rfl rfl rfl ⟨Nat.le_refl _, Nat.le_refl _⟩ rfl dX12_measure_42 ?_
            intro μ9 hμ9
            obtain ⟨w2, rfl, hNw⟩ := hμ9
            refine ca_goto (tgt := 58) h dX12_measure_45 (by decide) ?_
            refine ca_iinc h dX12_measure_58 rfl ik_1 rfl ?_
            refine ca_goto (tgt := 9) h dX12_measure_61 (by decide) ?_
            refine ca_pick [1, 2, 3, 0] rfl ?_
            have e9 : kf (k_ms1 m) (j + 1) n = k_add nj m j (k_lv nj j (nj 3 m 0) (nj 3 m 1)) (Int32.toNatClampNeg (nj 0 0 4)) := by rw [kf_s, ← hnj]; unfold k_ms1; rw [if_pos hyes]
            exact ih_9 (j + 1) (by omega) _ (nI_1 j) w2 (by rw [e9]; exact hNw) _ (by rw [r_wr_wr])
  refine ca_pick [2, 3, 1, 0] rfl ?_
  exact loop_9 _ 0 (Nat.zero_add _) _ rfl _ hN _ rfl
