/-! THE REFERENCE: a mobile added, a call set up, the best hysteresis -/
def r_zr (w : Nat → Int32) (M k : Nat) : Nat → Int32 := fun i => if 210 + 91 * M ≤ i ∧ i < 210 + 91 * M + k then 0 else w i
theorem r_zr_0 (w : Nat → Int32) (M : Nat) : r_zr w M 0 = w := by funext i; unfold r_zr; rw [if_neg (by omega)]
theorem r_zr_s (w : Nat → Int32) (M k : Nat) : up (r_zr w M k) (210 + 91 * M + k) 0 = r_zr w M (k + 1) := by
  funext i
  by_cases e : i = 210 + 91 * M + k
  · subst e; rw [up_s]; unfold r_zr; rw [if_pos (by omega)]
  · rw [up_n e]; unfold r_zr
    by_cases g : 210 + 91 * M ≤ i ∧ i < 210 + 91 * M + k
    · rw [if_pos g, if_pos (by omega)]
    · rw [if_neg g, if_neg (by omega)]
theorem r_R_congr'' {n n' : ch_N} {w w' : Nat → Int32} (h : r_R n w) (h1 : w' 1 = w 1) (hw : ∀ j, 90 ≤ j → j < 210 → w' j = w j) (h2 : n' 2 = n 2) (h0 : k_cc n' = k_cc n) : r_R n' w' := by
  obtain ⟨⟨b1, b2⟩, b3, b4, b5, b6⟩ := h
  unfold r_R
  rw [h2, h0, h1]
  refine ⟨⟨b1, b2⟩, fun r hr => ?_, fun r t hr ht e1 e2 => ?_, fun a b ha hb hz => ?_, b6⟩
  · obtain ⟨a, b, g⟩ := b3 r hr
    refine ⟨a, b, ?_⟩
    rw [hw _ (by omega) (by omega), hw _ (by omega) (by omega), hw _ (by omega) (by omega), hw _ (by omega) (by omega), hw _ (by omega) (by omega)]
    exact g
  · rw [hw _ (by omega) (by omega), hw (90 + 5 * t) (by omega) (by omega)] at e1
    rw [hw _ (by omega) (by omega), hw (90 + 5 * t + 1) (by omega) (by omega)] at e2
    exact b4 r t hr ht e1 e2
  · obtain ⟨r, hr, g1, g2⟩ := b5 a b ha hb hz
    exact ⟨r, hr, by rw [hw _ (by omega) (by omega)]; exact g1, by rw [hw _ (by omega) (by omega)]; exact g2⟩
def k_amN (n : ch_N) (M : Nat) (x y vx vy : Int32) : ch_N := k_plc (nw n 0 0 2 (nI (M + 1))) M x y vx vy
def r_amW (w : Nat → Int32) (M : Nat) (x y vx vy : Int32) : Nat → Int32 := r_end (up (up (up (up (r_zr (up w 2 (nI (M + 1))) M 91) (210 + 91 * M + 0) x) (210 + 91 * M + 1) y) (210 + 91 * M + 2) vx) (210 + 91 * M + 3) vy) M
theorem r_N_am {n : ch_N} {w : Nat → Int32} {M : Nat} {x y vx vy : Int32} (h : r_N n w) (hM : M = k_mc n) (hM12 : M < 12) (hx : ¬ x < 0 ∧ ¬ 999 < x) (hy : ¬ y < 0 ∧ ¬ 999 < y) : r_N (k_amN n M x y vx vy) (r_amW w M x y vx vy) := by
  have h24 := r_24 h
  have hcc := h.2.2.2.2.2.2.1
  have h58 : ∀ i c, i < 13 → c < 8 → Int32.toNatClampNeg (n 5 i c) ≤ 8 := fun i c hi hc => (r_c58 h hi hc).2
  have e3 : ∀ j, (k_amN n M x y vx vy) 3 M j = if j = 0 then x else if j = 1 then y else if j = 2 then vx else if j = 3 then vy else if j = 4 then 0 else if j = 5 then -1 else if j = 6 then 0 else if j = 7 then 0 else if j = 8 then -1 else if j = 9 then 0 else n 3 M j := by
    intro j
    unfold k_amN k_plc k_idle k_clr
    rw [na_k (by decide), na_k (by decide)]
    simp only [nw_at]
    rcases (show j = 0 ∨ j = 1 ∨ j = 2 ∨ j = 3 ∨ j = 4 ∨ j = 5 ∨ j = 6 ∨ j = 7 ∨ j = 8 ∨ j = 9 ∨ 9 < j by omega) with rfl | rfl | rfl | rfl | rfl | rfl | rfl | rfl | rfl | rfl | g
    any_goals simp
    simp [show j ≠ 0 by omega, show j ≠ 1 by omega, show j ≠ 2 by omega, show j ≠ 3 by omega, show j ≠ 4 by omega, show j ≠ 5 by omega, show j ≠ 6 by omega, show j ≠ 7 by omega, show j ≠ 8 by omega, show j ≠ 9 by omega]
  have e5 : ∀ c, (k_amN n M x y vx vy) 5 M c = 0 := by intro c; unfold k_amN k_plc k_idle k_clr; rw [na_k (by decide), na_at, if_pos ⟨rfl, rfl⟩]
  have e6 : ∀ c, (k_amN n M x y vx vy) 6 M c = -1 := by intro c; unfold k_amN k_plc k_idle k_clr; rw [na_at, if_pos ⟨rfl, rfl⟩]
  have e0 : ∀ j, (k_amN n M x y vx vy) 0 0 j = if j = 2 then nI (M + 1) else n 0 0 j := by
    intro j
    unfold k_amN k_plc k_idle k_clr
    rw [na_k (by decide), na_k (by decide)]
    simp only [nw_k (show (0 : Nat) ≠ 3 by decide)]
    rw [nw_at]
    by_cases g : j = 2
    · rw [if_pos ⟨rfl, rfl, g⟩, if_pos g]
    · rw [if_neg (fun z => g z.2.2), if_neg g]
  have ek : ∀ kd, kd = 1 ∨ kd = 2 ∨ kd = 7 → (k_amN n M x y vx vy) kd = n kd := by
    intro kd hk
    unfold k_amN k_plc k_idle k_clr
    rw [na_k (by omega), na_k (by omega)]
    simp only [nw_k (show kd ≠ 3 by omega)]
    rw [nw_k (by omega)]
  have eo : ∀ kd i, i ≠ M → kd = 3 ∨ kd = 4 ∨ kd = 5 ∨ kd = 6 → (k_amN n M x y vx vy) kd i = n kd i := by
    intro kd i hi hk
    funext j
    unfold k_amN k_plc k_idle k_clr
    simp [nw_at, na_at, hi]
    intro z
    omega
  have ew : ∀ j, r_amW w M x y vx vy j = if j = 210 + 91 * M + 8 then -1 else if j = 210 + 91 * M + 6 then 0 else if j = 210 + 91 * M + 5 then -1 else if j = 210 + 91 * M + 4 then 0 else if j = 210 + 91 * M + 3 then vy else if j = 210 + 91 * M + 2 then vx else if j = 210 + 91 * M + 1 then y else if j = 210 + 91 * M + 0 then x else if 210 + 91 * M ≤ j ∧ j < 210 + 91 * M + 91 then 0 else if j = 2 then nI (M + 1) else w j := fun j => rfl
  have ewo : ∀ j, ¬ (210 + 91 * M ≤ j ∧ j < 210 + 91 * M + 91) → r_amW w M x y vx vy j = if j = 2 then nI (M + 1) else w j := fun j hj => by
    rw [ew, if_neg (by omega), if_neg (by omega), if_neg (by omega), if_neg (by omega), if_neg (by omega), if_neg (by omega), if_neg (by omega), if_neg (by omega), if_neg hj]
  generalize k_amN n M x y vx vy = n' at *
  generalize r_amW w M x y vx vy = w' at *
  have ec : k_cc n' = k_cc n := by unfold k_cc; rw [e0, if_neg (by decide)]
  have em : k_mc n' = M + 1 := by unfold k_mc; rw [e0, if_pos rfl, nI_clamp (by omega)]
  have hlt : ∀ j, j < 210 → ¬ j = 2 → w' j = w j := fun j hj hj2 => by rw [ewo j (by omega), if_neg hj2]
  have hm := h.2.2.2.2.1
  have hwf := h.2.2.2.2.2
  obtain ⟨a1, ⟨a2, ⟨k1, k2, k3, k4, k5⟩, aK2⟩, a3, aR, -, -⟩ := h
  refine ⟨fun j hj => ?_, ⟨fun t ht => by rw [hlt _ (by omega) (by omega), ek 7 (by omega)]; exact a2 t ht, ⟨by rw [e0, if_neg (by decide)]; exact k1, by rw [e0, if_neg (by decide)]; exact k2, by rw [e0, if_neg (by decide)]; exact k3, by rw [e0, if_neg (by decide)]; exact k4, by rw [e0, if_pos rfl]; exact nI_pos (by omega)⟩, fun d hd => by rw [ek 1 (by omega)]; exact aK2 d (by rw [ec] at hd; exact hd)⟩, fun c f hc hf => by rw [hlt _ (by rw [ec] at hc; omega) (by omega), ek 1 (by omega)]; exact a3 c f (by rw [ec] at hc; exact hc) hf, ?_, fun i hi => ?_, ?_⟩
  · by_cases e : j = 2
    · subst e; rw [ewo 2 (by omega), if_pos rfl, e0, if_pos rfl]
    · rw [hlt j (by omega) e, e0, if_neg e]; exact a1 j hj
  · refine r_R_congr'' aR (hlt 1 (by decide) (by decide)) (fun j h1 h2 => hlt j h2 (by omega)) (ek 2 (by omega)) ec
  · rw [em] at hi
    by_cases e : i = M
    · subst e
      unfold r_M
      have n1 : ¬ n' 3 i 4 = 1 := by rw [e3]; simp
      have n2 : ¬ n' 3 i 4 = 2 := by rw [e3]; simp
      refine ⟨fun f hf => ?_, ?_, fun z => absurd z n1, fun z => absurd (by rw [e3]; rfl) z, Or.inl (by rw [e3]; rfl), fun z => absurd z n1, fun _ => ⟨by rw [e3]; rfl, fun c _ => ⟨e5 c, e6 c⟩⟩, fun _ => by rw [e3]; rfl, fun z => absurd z n2, Or.inl (by rw [e3]; rfl), fun z => absurd (by rw [e3]; rfl) z, fun z => absurd z n1, ?_, fun z => absurd z n1⟩
      · rw [e3, ew]
        rcases (show f = 0 ∨ f = 1 ∨ f = 2 ∨ f = 3 ∨ f = 4 ∨ f = 5 ∨ f = 6 by omega) with rfl | rfl | rfl | rfl | rfl | rfl | rfl <;> simp
      · rw [e3, ew]; simp
      rw [e3, e3, if_pos rfl, if_neg (by decide), if_pos rfl]
      exact ⟨hx.1, hx.2, hy.1, hy.2⟩
    · exact r_M_congr (hm i (by omega)) (fun f hf => by rw [ewo _ (by omega), if_neg (by omega)]) (eo 3 i e (by omega)) (eo 4 i e (by omega)) (eo 5 i e (by omega)) (eo 6 i e (by omega)) ec (fun j => by rw [ek 2 (by omega)]) (fun c hc => h58 i c (by omega) hc)
  · obtain ⟨g1, g2, g3, g4, g5, g6⟩ := hwf
    refine ⟨by rw [em]; omega, by rw [ec]; exact g2, by rw [e0, if_neg (by decide)]; exact g3, by rw [e0, if_neg (by decide)]; exact g4, by rw [e0, if_neg (by decide)]; exact g5, fun i c hi hc => ?_⟩
    rw [e0, if_neg (by decide)]
    by_cases e : i = M
    · subst e; rw [e5]; exact ⟨by decide, Nat.zero_le _, fun _ => Nat.zero_le _⟩
    · rw [eo 5 i e (by omega)]; exact ⟨(g6 i c hi hc).1, (g6 i c hi hc).2.1, fun z => (g6 i c hi hc).2.2 (by rw [em] at z; omega)⟩
set_option maxHeartbeats 100000 in
theorem c_X12_addMobile {l : Launch} {E : ch_E} {S : ch_S} {μ : ch_M} (hs : ch_Std E S) {n sn tx : ch_N} {F : Int32} {u : Nat} {hst : Nat → ch_N} (hJ : r_J n sn tx F u hst (μ 16)) {x y vx vy : Int32} (hx : ¬ x < 0 ∧ ¬ 999 < x) (hy : ¬ y < 0 ∧ ¬ 999 < y) (hvx : ¬ vx < -99 ∧ ¬ 99 < vx) (hvy : ¬ vy < -99 ∧ ¬ 99 < vy) (hM : k_mc n < 12) : ch_C E l yX12_addMobile cX12_addMobile 7 (some FieldType.int) 4 0 0 S μ [.ref (S.1 16 22 0), .int x, .int y, .int vx, .int vy] (r_A (some (.int (nI (k_mc n)))) 0 (k_amN n (k_mc n) x y vx vy) sn tx F (r_pu u) (r_ph hst u n) S μ) := by
  refine ch_enter rfl rfl ?_
  intro X hl0 h hG hR hnm
  have h : ch_H X E RX12 cX12_addMobile 7 := h
  have hN := hJ.1
  show ch_W X E 7 S μ 0 0 0 [(0, .ref (S.1 16 22 0)), (1, .int x), (2, .int y), (3, .int vx), (4, .int vy)] []
  refine ca_aload_nr h dX12_addMobile_0 rfl ?_
  refine ca_iconst h dX12_addMobile_1 ik_0 ?_
  refine pi_X12_70 h (hs.1 _ _ _ ⟨rfl, rfl⟩) dX12_addMobile_2 ?_
  refine ca_mem (μ'' := r_th μ 0) rfl ?_
  refine ca_iload_n h dX12_addMobile_5 rfl ?_
  refine ca_si h hG ms_X12_111 (c_X12_isCoordinate) rfl rfl rfl rfl ⟨Nat.le_refl _, Nat.le_refl _⟩ rfl dX12_addMobile_6 ?_
  refine ca_if_eq (tgt := 34) h dX12_addMobile_9 (by decide) (fun c_9 => ?_) (fun c_9 => ?_)
  · exact absurd hx (of_decide_eq_false (bI_0.mp c_9))
  ·
    refine ca_iload_n h dX12_addMobile_12 rfl ?_
    refine ca_si h hG ms_X12_111 (c_X12_isCoordinate) rfl rfl rfl rfl ⟨Nat.le_refl _, Nat.le_refl _⟩ rfl dX12_addMobile_13 ?_
    refine ca_if_eq (tgt := 34) h dX12_addMobile_16 (by decide) (fun c_16 => ?_) (fun c_16 => ?_)
    · exact absurd hy (of_decide_eq_false (bI_0.mp c_16))
    ·
      refine ca_iload_n h dX12_addMobile_19 rfl ?_
      refine ca_si h hG ms_X12_260 (c_X12_isSpeed) rfl rfl rfl rfl ⟨Nat.le_refl _, Nat.le_refl _⟩ rfl dX12_addMobile_20 ?_
      refine ca_if_eq (tgt := 34) h dX12_addMobile_23 (by decide) (fun c_23 => ?_) (fun c_23 => ?_)
      · exact absurd hvx (of_decide_eq_false (bI_0.mp c_23))
      ·
        refine ca_iload h dX12_addMobile_26 rfl ?_
        refine ca_si h hG ms_X12_260 (c_X12_isSpeed) rfl rfl rfl rfl ⟨Nat.le_refl _, Nat.le_refl _⟩ rfl dX12_addMobile_28 ?_
        refine ca_if_ne (tgt := 40) h dX12_addMobile_31 (by decide) (fun c_31 => ?_) (fun c_31 => ?_)
        ·
          refine ca_aload_nr h dX12_addMobile_40 rfl ?_
          refine gs_X12_9 h hs ⟨rfl, rfl⟩ dX12_addMobile_41 ?_
          refine ca_iconst h dX12_addMobile_44 ik_2 ?_
          refine ca_iald h rfl (hs.1 _ _ _ ⟨rfl, rfl⟩) (vp_in_nI (n := 2) (N := 1302) (by decide) (by decide)) dX12_addMobile_45 ?_
          refine ca_top (show _ = nI (k_mc n) by rw [r_th_23]; exact (show μ 16 23 0 (Int32.toNatClampNeg 2) = nI (k_mc n) by rw [show Int32.toNatClampNeg 2 = 2 from rfl, r_mc hN, nI_cn (by rw [hN.1 2 (by decide)]; exact hN.2.1.2.1.2.2.2.2)])) ?_
          refine ca_bipush h dX12_addMobile_46 bk_12 ?_
          refine ca_icmp_ne (tgt := 54) h dX12_addMobile_48 (by decide) (fun c_48 => ?_) (fun c_48 => ?_)
          ·
            refine ca_aload_nr h dX12_addMobile_54 rfl ?_
            refine ca_vXv h hG ml_X12_173 (c_X12_record hs (n := n) (sn := sn) (tx := tx) (F := F) (u := u) (hst := hst) (r_J_thm hJ)) (ci := 12) rfl rfl rfl (hs.1 _ _ _ ⟨rfl, rfl⟩) rfl rfl rfl rfl ⟨Nat.le_refl _, Nat.le_refl _⟩ rfl dX12_addMobile_55 ?_
            intro μ9 hμ9
            obtain ⟨p, rfl, h6, e23, hJ1⟩ := hμ9
            rw [r_th_up] 
            rw [r_th_16, nw_at, if_pos ⟨rfl, rfl, rfl⟩] at h6
            rw [r_th_23] at e23
            have hN1 : r_N n (up μ 16 p 16 23 0) := by rw [up_s, e23]; exact hN
            have eMp : up μ 16 p 16 23 0 (Int32.toNatClampNeg 2) = nI (k_mc n) := by rw [up_s, e23]; exact (show μ 16 23 0 (Int32.toNatClampNeg 2) = nI (k_mc n) by rw [show Int32.toNatClampNeg 2 = 2 from rfl, r_mc hN, nI_cn (by rw [hN.1 2 (by decide)]; exact hN.2.1.2.1.2.2.2.2)])
            refine ca_aload_nr h dX12_addMobile_58 rfl ?_
            refine gs_X12_9 h hs ⟨rfl, rfl⟩ dX12_addMobile_59 ?_
            refine ca_iconst h dX12_addMobile_62 ik_2 ?_
            refine ca_iald h rfl (hs.1 _ _ _ ⟨rfl, rfl⟩) (vp_in_nI (n := 2) (N := 1302) (by decide) (by decide)) dX12_addMobile_63 ?_
            rw [eMp]
            refine ca_istore h dX12_addMobile_64 rfl ?_
            refine ca_aload_nr h dX12_addMobile_66 rfl ?_
            refine gs_X12_9 h hs ⟨rfl, rfl⟩ dX12_addMobile_67 ?_
            refine ca_iconst h dX12_addMobile_70 ik_2 ?_
            refine ca_dup2 h dX12_addMobile_71 rfl rfl ?_
            refine ca_iald h rfl (hs.1 _ _ _ ⟨rfl, rfl⟩) (vp_in_nI (n := 2) (N := 1302) (by decide) (by decide)) dX12_addMobile_72 ?_
            rw [eMp]
            refine ca_iconst h dX12_addMobile_73 ik_1 ?_
            refine ca_iadd h dX12_addMobile_74 ?_
            refine ca_iast h rfl (hs.1 _ _ _ ⟨rfl, rfl⟩) (vp_in_nI (n := 2) (N := 1302) (by decide) (by decide)) dX12_addMobile_75 ?_
            refine ca_mem (μ'' := r_wr (up μ 16 p) (up (up μ 16 p 16 23 0) 2 (nI (k_mc n + 1)))) (by rw [ch_st_nw, show Int32.toNatClampNeg 2 = 2 from rfl, r_put0, nI_1]) ?_
            refine ca_iconst h dX12_addMobile_76 ik_0 ?_
            refine ca_istore h dX12_addMobile_77 rfl ?_
            have loop_79 : ∀ (jj k : Nat), k + jj = 91 → ∀ (x6 : Int32) (e6 : x6 = nI k) (mm : ch_M) (em : mm = r_wr (up μ 16 p) (r_zr (up (up μ 16 p 16 23 0) 2 (nI (k_mc n + 1))) (k_mc n) k)), ch_W X E 7 S mm 0 0 79 [(0, .ref (S.1 16 22 0)), (1, .int x), (2, .int y), (3, .int vx), (4, .int vy), (5, .int (nI (k_mc n))), (6, .int x6)] [] := by
              intro jj
              induction jj with
              | zero =>
                intro k hn x6 e6 mm em
                have hn : k = 91 := by omega
                subst e6 em
                refine ca_iload h dX12_addMobile_79 rfl ?_
                refine ca_bipush h dX12_addMobile_81 bk_91 ?_
                refine ca_icmp_ge (tgt := 101) h dX12_addMobile_83 (by decide) (fun c_83 => ?_) (fun c_83 => ?_)
                ·
                  refine ca_aload_nr h dX12_addMobile_101 rfl ?_
                  refine ca_iload h dX12_addMobile_102 rfl ?_
                  refine ca_iconst h dX12_addMobile_104 ik_0 ?_
                  refine ca_iload_n h dX12_addMobile_105 rfl ?_
                  refine ca_vv h hG ml_X12_147 (c_X12_put hs hM (f := 0) (by decide)) (ci := 12) rfl rfl rfl (hs.1 _ _ _ ⟨rfl, rfl⟩) rfl rfl rfl rfl ⟨Nat.le_refl _, Nat.le_refl _⟩ rfl dX12_addMobile_106 ?_
                  refine ca_aload_nr h dX12_addMobile_109 rfl ?_
                  refine ca_iload h dX12_addMobile_110 rfl ?_
                  refine ca_iconst h dX12_addMobile_112 ik_1 ?_
                  refine ca_iload_n h dX12_addMobile_113 rfl ?_
                  refine ca_vv h hG ml_X12_147 (c_X12_put hs hM (f := 1) (by decide)) (ci := 12) rfl rfl rfl (hs.1 _ _ _ ⟨rfl, rfl⟩) rfl rfl rfl rfl ⟨Nat.le_refl _, Nat.le_refl _⟩ rfl dX12_addMobile_114 ?_
                  refine ca_aload_nr h dX12_addMobile_117 rfl ?_
                  refine ca_iload h dX12_addMobile_118 rfl ?_
                  refine ca_iconst h dX12_addMobile_120 ik_2 ?_
                  refine ca_iload_n h dX12_addMobile_121 rfl ?_
                  refine ca_vv h hG ml_X12_147 (c_X12_put hs hM (f := 2) (by decide)) (ci := 12) rfl rfl rfl (hs.1 _ _ _ ⟨rfl, rfl⟩) rfl rfl rfl rfl ⟨Nat.le_refl _, Nat.le_refl _⟩ rfl dX12_addMobile_122 ?_
                  refine ca_aload_nr h dX12_addMobile_125 rfl ?_
                  refine ca_iload h dX12_addMobile_126 rfl ?_
                  refine ca_iconst h dX12_addMobile_128 ik_3 ?_
                  refine ca_iload h dX12_addMobile_129 rfl ?_
                  refine ca_vv h hG ml_X12_147 (c_X12_put hs hM (f := 3) (by decide)) (ci := 12) rfl rfl rfl (hs.1 _ _ _ ⟨rfl, rfl⟩) rfl rfl rfl rfl ⟨Nat.le_refl _, Nat.le_refl _⟩ rfl dX12_addMobile_131 ?_
                  refine ca_aload_nr h dX12_addMobile_134 rfl ?_
                  refine ca_iload h dX12_addMobile_135 rfl ?_
                  refine ca_vv h hG ml_X12_195 (c_X12_end hs hM) (ci := 12) rfl rfl rfl (hs.1 _ _ _ ⟨rfl, rfl⟩) rfl rfl rfl rfl ⟨Nat.le_refl _, Nat.le_refl _⟩ rfl dX12_addMobile_137 ?_
                  refine ca_mem (μ'' := r_wr (up μ 16 p) (r_amW (up μ 16 p 16 23 0) (k_mc n) x y vx vy)) (by simp only [r_wr_put, r_wr_at, r_wr_wr]; rw [show k = 91 from hn]; rfl) ?_
                  refine ca_iload h dX12_addMobile_140 rfl ?_
                  refine ca_ireturn h hR rfl dX12_addMobile_142 ?_
                  exact ⟨rfl, rfl, r_A_wr h6 hJ1 (r_N_am hN1 rfl hM hx hy)⟩
                · exact absurd c_83 (nI_nlt (a := k) (b := 91) (by omega) (by omega))
              | succ jj ih_79 =>
                intro k hn x6 e6 mm em
                have hn1 : k < 91 := by omega
                subst e6 em
                refine ca_iload h dX12_addMobile_79 rfl ?_
                refine ca_bipush h dX12_addMobile_81 bk_91 ?_
                refine ca_icmp_ge (tgt := 101) h dX12_addMobile_83 (by decide) (fun c_83 => ?_) (fun c_83 => ?_)
                · exact absurd (nI_lt (a := k) (b := 91) hn1 (by decide)) c_83
                ·
                  refine ca_aload_nr h dX12_addMobile_86 rfl ?_
                  refine ca_iload h dX12_addMobile_87 rfl ?_
                  refine ca_iload h dX12_addMobile_89 rfl ?_
                  refine ca_iconst h dX12_addMobile_91 ik_0 ?_
                  refine ca_vv h hG ml_X12_147 (c_X12_put hs hM (f := k) (by omega)) (ci := 12) rfl rfl rfl (hs.1 _ _ _ ⟨rfl, rfl⟩) rfl rfl rfl rfl ⟨Nat.le_refl _, Nat.le_refl _⟩ rfl dX12_addMobile_92 ?_
                  refine ca_iinc h dX12_addMobile_95 rfl ik_1 rfl ?_
                  refine ca_goto (tgt := 79) h dX12_addMobile_98 (by decide) ?_
                  refine ca_pick [1, 2, 3, 4, 5, 6, 0] rfl ?_
                  exact ih_79 (k + 1) (by omega) _ (nI_1 k) _ (by simp only [r_wr_put, r_wr_at, r_wr_wr]; rw [r_zr_s])
            refine ca_pick [2, 3, 4, 5, 6, 1, 0] rfl ?_
            exact loop_79 91 0 (Nat.zero_add _) _ rfl _ (by rw [r_zr_0])
          · exact absurd ((nI_eq (b := 12) (by omega) (by decide)).mp c_48) (by omega)
        · exact absurd hvy (of_decide_eq_false (bI_0.mp c_31))
set_option maxHeartbeats 100000 in
theorem c_X12_addMobileF {l : Launch} {E : ch_E} {S : ch_S} {μ : ch_M} (hs : ch_Std E S) {n : ch_N} (hN : r_N n (μ 16 23 0)) {x y vx vy : Int32} (hx : ¬ x < 0 ∧ ¬ 999 < x) (hy : ¬ y < 0 ∧ ¬ 999 < y) (hvx : ¬ vx < -99 ∧ ¬ 99 < vx) (hvy : ¬ vy < -99 ∧ ¬ 99 < vy) (hM : ¬ k_mc n < 12) : ch_C E l yX12_addMobile cX12_addMobile 7 (some FieldType.int) 4 0 0 S μ [.ref (S.1 16 22 0), .int x, .int y, .int vx, .int vy] (ch_F (some (.int (-2))) S (r_th μ 0)) := by
  refine ch_enter rfl rfl ?_
  intro X hl0 h hG hR hnm
  have h : ch_H X E RX12 cX12_addMobile 7 := h
  show ch_W X E 7 S μ 0 0 0 [(0, .ref (S.1 16 22 0)), (1, .int x), (2, .int y), (3, .int vx), (4, .int vy)] []
  refine ca_aload_nr h dX12_addMobile_0 rfl ?_
  refine ca_iconst h dX12_addMobile_1 ik_0 ?_
  refine pi_X12_70 h (hs.1 _ _ _ ⟨rfl, rfl⟩) dX12_addMobile_2 ?_
  refine ca_mem (μ'' := r_th μ 0) rfl ?_
  refine ca_iload_n h dX12_addMobile_5 rfl ?_
  refine ca_si h hG ms_X12_111 (c_X12_isCoordinate) rfl rfl rfl rfl ⟨Nat.le_refl _, Nat.le_refl _⟩ rfl dX12_addMobile_6 ?_
  refine ca_if_eq (tgt := 34) h dX12_addMobile_9 (by decide) (fun c_9 => ?_) (fun c_9 => ?_)
  · exact absurd hx (of_decide_eq_false (bI_0.mp c_9))
  ·
    refine ca_iload_n h dX12_addMobile_12 rfl ?_
    refine ca_si h hG ms_X12_111 (c_X12_isCoordinate) rfl rfl rfl rfl ⟨Nat.le_refl _, Nat.le_refl _⟩ rfl dX12_addMobile_13 ?_
    refine ca_if_eq (tgt := 34) h dX12_addMobile_16 (by decide) (fun c_16 => ?_) (fun c_16 => ?_)
    · exact absurd hy (of_decide_eq_false (bI_0.mp c_16))
    ·
      refine ca_iload_n h dX12_addMobile_19 rfl ?_
      refine ca_si h hG ms_X12_260 (c_X12_isSpeed) rfl rfl rfl rfl ⟨Nat.le_refl _, Nat.le_refl _⟩ rfl dX12_addMobile_20 ?_
      refine ca_if_eq (tgt := 34) h dX12_addMobile_23 (by decide) (fun c_23 => ?_) (fun c_23 => ?_)
      · exact absurd hvx (of_decide_eq_false (bI_0.mp c_23))
      ·
        refine ca_iload h dX12_addMobile_26 rfl ?_
        refine ca_si h hG ms_X12_260 (c_X12_isSpeed) rfl rfl rfl rfl ⟨Nat.le_refl _, Nat.le_refl _⟩ rfl dX12_addMobile_28 ?_
        refine ca_if_ne (tgt := 40) h dX12_addMobile_31 (by decide) (fun c_31 => ?_) (fun c_31 => ?_)
        ·
          refine ca_aload_nr h dX12_addMobile_40 rfl ?_
          refine gs_X12_9 h hs ⟨rfl, rfl⟩ dX12_addMobile_41 ?_
          refine ca_iconst h dX12_addMobile_44 ik_2 ?_
          refine ca_iald h rfl (hs.1 _ _ _ ⟨rfl, rfl⟩) (vp_in_nI (n := 2) (N := 1302) (by decide) (by decide)) dX12_addMobile_45 ?_
          refine ca_top (show _ = nI (k_mc n) by rw [r_th_23]; exact (show μ 16 23 0 (Int32.toNatClampNeg 2) = nI (k_mc n) by rw [show Int32.toNatClampNeg 2 = 2 from rfl, r_mc hN, nI_cn (by rw [hN.1 2 (by decide)]; exact hN.2.1.2.1.2.2.2.2)])) ?_
          refine ca_bipush h dX12_addMobile_46 bk_12 ?_
          refine ca_icmp_ne (tgt := 54) h dX12_addMobile_48 (by decide) (fun c_48 => ?_) (fun c_48 => ?_)
          ·
            exact absurd (show nI (k_mc n) = 12 from congrArg nI (show k_mc n = 12 by have := hN.2.2.2.2.2.1; omega)) c_48
          ·
            refine ca_bipush h dX12_addMobile_51 bk_m2 ?_
            refine ca_ireturn h hR rfl dX12_addMobile_53 ?_
            exact ⟨rfl, rfl, rfl⟩
        · exact absurd hvy (of_decide_eq_false (bI_0.mp c_31))
set_option maxHeartbeats 100000 in
theorem c_X12_addMobileR {l : Launch} {E : ch_E} {S : ch_S} {μ : ch_M} (hs : ch_Std E S) {x y vx vy : Int32} (hb : ¬ ((¬ x < 0 ∧ ¬ 999 < x) ∧ (¬ y < 0 ∧ ¬ 999 < y) ∧ (¬ vx < -99 ∧ ¬ 99 < vx) ∧ (¬ vy < -99 ∧ ¬ 99 < vy))) : ch_C E l yX12_addMobile cX12_addMobile 7 (some FieldType.int) 4 0 0 S μ [.ref (S.1 16 22 0), .int x, .int y, .int vx, .int vy] (ch_F (some (.int (0))) S (r_th μ 1)) := by
  refine ch_enter rfl rfl ?_
  intro X hl0 h hG hR hnm
  have h : ch_H X E RX12 cX12_addMobile 7 := h
  show ch_W X E 7 S μ 0 0 0 [(0, .ref (S.1 16 22 0)), (1, .int x), (2, .int y), (3, .int vx), (4, .int vy)] []
  refine ca_aload_nr h dX12_addMobile_0 rfl ?_
  refine ca_iconst h dX12_addMobile_1 ik_0 ?_
  refine pi_X12_70 h (hs.1 _ _ _ ⟨rfl, rfl⟩) dX12_addMobile_2 ?_
  refine ca_mem (μ'' := r_th μ 0) rfl ?_
  refine ca_iload_n h dX12_addMobile_5 rfl ?_
  refine ca_si h hG ms_X12_111 (c_X12_isCoordinate) rfl rfl rfl rfl ⟨Nat.le_refl _, Nat.le_refl _⟩ rfl dX12_addMobile_6 ?_
  refine ca_if_eq (tgt := 34) h dX12_addMobile_9 (by decide) (fun c_9 => ?_) (fun c_9 => ?_)
  ·
    refine ca_aload_nr h dX12_addMobile_34 rfl ?_
    refine ca_iconst h dX12_addMobile_35 ik_1 ?_
    refine ca_vi h hG ml_X12_108 (c_X12_raise hs) (ci := 12) rfl rfl rfl (hs.1 _ _ _ ⟨rfl, rfl⟩) rfl rfl rfl rfl ⟨Nat.le_refl _, Nat.le_refl _⟩ rfl dX12_addMobile_36 ?_
    refine ca_ireturn h hR rfl dX12_addMobile_39 ?_
    exact ⟨rfl, rfl, by rw [r_th_th]⟩
  ·
    refine ca_iload_n h dX12_addMobile_12 rfl ?_
    refine ca_si h hG ms_X12_111 (c_X12_isCoordinate) rfl rfl rfl rfl ⟨Nat.le_refl _, Nat.le_refl _⟩ rfl dX12_addMobile_13 ?_
    refine ca_if_eq (tgt := 34) h dX12_addMobile_16 (by decide) (fun c_16 => ?_) (fun c_16 => ?_)
    ·
      refine ca_aload_nr h dX12_addMobile_34 rfl ?_
      refine ca_iconst h dX12_addMobile_35 ik_1 ?_
      refine ca_vi h hG ml_X12_108 (c_X12_raise hs) (ci := 12) rfl rfl rfl (hs.1 _ _ _ ⟨rfl, rfl⟩) rfl rfl rfl rfl ⟨Nat.le_refl _, Nat.le_refl _⟩ rfl dX12_addMobile_36 ?_
      refine ca_ireturn h hR rfl dX12_addMobile_39 ?_
      exact ⟨rfl, rfl, by rw [r_th_th]⟩
    ·
      refine ca_iload_n h dX12_addMobile_19 rfl ?_
      refine ca_si h hG ms_X12_260 (c_X12_isSpeed) rfl rfl rfl rfl ⟨Nat.le_refl _, Nat.le_refl _⟩ rfl dX12_addMobile_20 ?_
      refine ca_if_eq (tgt := 34) h dX12_addMobile_23 (by decide) (fun c_23 => ?_) (fun c_23 => ?_)
      ·
        refine ca_aload_nr h dX12_addMobile_34 rfl ?_
        refine ca_iconst h dX12_addMobile_35 ik_1 ?_
        refine ca_vi h hG ml_X12_108 (c_X12_raise hs) (ci := 12) rfl rfl rfl (hs.1 _ _ _ ⟨rfl, rfl⟩) rfl rfl rfl rfl ⟨Nat.le_refl _, Nat.le_refl _⟩ rfl dX12_addMobile_36 ?_
        refine ca_ireturn h hR rfl dX12_addMobile_39 ?_
        exact ⟨rfl, rfl, by rw [r_th_th]⟩
      ·
        refine ca_iload h dX12_addMobile_26 rfl ?_
        refine ca_si h hG ms_X12_260 (c_X12_isSpeed) rfl rfl rfl rfl ⟨Nat.le_refl _, Nat.le_refl _⟩ rfl dX12_addMobile_28 ?_
        refine ca_if_ne (tgt := 40) h dX12_addMobile_31 (by decide) (fun c_31 => ?_) (fun c_31 => ?_)
        ·
          exact absurd ⟨of_decide_eq_true (bI_n0.mp c_9), of_decide_eq_true (bI_n0.mp c_16), of_decide_eq_true (bI_n0.mp c_23), of_decide_eq_true (bI_n0.mp c_31)⟩ hb
        ·
          refine ca_aload_nr h dX12_addMobile_34 rfl ?_
          refine ca_iconst h dX12_addMobile_35 ik_1 ?_
          refine ca_vi h hG ml_X12_108 (c_X12_raise hs) (ci := 12) rfl rfl rfl (hs.1 _ _ _ ⟨rfl, rfl⟩) rfl rfl rfl rfl ⟨Nat.le_refl _, Nat.le_refl _⟩ rfl dX12_addMobile_36 ?_
          refine ca_ireturn h hR rfl dX12_addMobile_39 ?_
          exact ⟨rfl, rfl, by rw [r_th_th]⟩
