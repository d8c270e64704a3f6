/-! THE REFERENCE: feed, errorPosition -/
theorem r_shr8 (w s s2 : Int32) (k : Nat) (h1 : (s.toBitVec.smod 32).toNat = k) (h2 : ((s2.toUInt32 &&& Int32.toUInt32 31).toBitVec % 32).toNat = k) (hk : k = 24 ∨ k = 16 ∨ k = 8 ∨ k = 0) : (w >>> s) &&& 255 = k_us w s2 &&& 255 := by
  rw [pk_and (w >>> s) (m := 255) 8 (by decide), pk_and (k_us w s2) (m := 255) 8 (by decide)]
  congr 1
  have e1 := pk_shr w s k h1
  have e2 : (k_us w s2).toBitVec.toNat = w.toBitVec.toNat / 2 ^ k := pk_ushr w s2 k h2
  rw [e2]
  rw [Int.shiftRight_eq_div_pow] at e1
  have f1 : (w >>> s).toInt = if 2 * (w >>> s).toBitVec.toNat < 2 ^ 32 then ((w >>> s).toBitVec.toNat : Int) else (w >>> s).toBitVec.toNat - (2 ^ 32 : Nat) := BitVec.toInt_eq_toNat_cond _
  have f2 : w.toInt = if 2 * w.toBitVec.toNat < 2 ^ 32 then (w.toBitVec.toNat : Int) else w.toBitVec.toNat - (2 ^ 32 : Nat) := BitVec.toInt_eq_toNat_cond _
  have g1 := (w >>> s).toBitVec.isLt
  have g2 := w.toBitVec.isLt
  generalize (w >>> s).toInt = X at *
  generalize (w >>> s).toBitVec.toNat = N at *
  generalize w.toInt = Y at *
  generalize w.toBitVec.toNat = M at *
  rcases hk with rfl | rfl | rfl | rfl
  · have e1 : X = Y / 16777216 := e1
    split at f1 <;> split at f2 <;> omega
  · have e1 : X = Y / 65536 := e1
    split at f1 <;> split at f2 <;> omega
  · have e1 : X = Y / 256 := e1
    split at f1 <;> split at f2 <;> omega
  · have e1 : X = Y / 1 := e1
    split at f1 <;> split at f2 <;> omega
def r_wd5 (a b c d e : Int32) (k : Nat) : Int32 := if k < 4 then a else if k < 8 then b else if k < 12 then c else if k < 16 then d else e
def r_by (a b c d e : Int32) (k : Nat) : Int32 := k_us (r_wd5 a b c d e k) (24 - nI (8 * (k % 4))) &&& 255
theorem r_by_e (w : Int32) {k : Nat} (hk : k < 20) : (w >>> ((24 - 8 * (nI k - nI k / 4 * 4)) &&& 31)) &&& 255 = k_us w (24 - nI (8 * (k % 4))) &&& 255 := by
  have e : nI k - nI k / 4 * 4 = nI (k % 4) := pk_rem (a := k) (d := 4) (by omega) (by decide) (by decide)
  rw [e, show (8 : Int32) = nI 8 from rfl, pk_mul]
  rcases (show k % 4 = 0 ∨ k % 4 = 1 ∨ k % 4 = 2 ∨ k % 4 = 3 by omega) with g | g | g | g <;> rw [g]
  · exact r_shr8 w _ _ 24 (by decide) (by decide) (by omega)
  · exact r_shr8 w _ _ 16 (by decide) (by decide) (by omega)
  · exact r_shr8 w _ _ 8 (by decide) (by decide) (by omega)
  · exact r_shr8 w _ _ 0 (by decide) (by decide) (by omega)
theorem r_by_b (a b c d e : Int32) (k : Nat) : ∃ j, j < 256 ∧ r_by a b c d e k = nI j := pk_andE _ 8 (by decide)
def r_fw (w : Nat → Int32) (L : Nat) (f : Nat → Int32) (k : Nat) : Nat → Int32 := fun i => if L ≤ i ∧ i < L + k then f (i - L) else w i
theorem r_fw_0 (w : Nat → Int32) (L : Nat) (f : Nat → Int32) : r_fw w L f 0 = w := by funext i; unfold r_fw; rw [if_neg (by omega)]
theorem r_fw_s (w : Nat → Int32) (L : Nat) (f : Nat → Int32) (k : Nat) : up (r_fw w L f k) (L + k) (f k) = r_fw w L f (k + 1) := by
  funext i
  by_cases e : i = L + k
  · subst e; rw [up_s]; unfold r_fw; rw [if_pos (by omega), Nat.add_sub_cancel_left]
  · rw [up_n e]; unfold r_fw
    by_cases g : L ≤ i ∧ i < L + k
    · rw [if_pos g, if_pos (by omega)]
    · rw [if_neg g, if_neg (by omega)]
def r_fm (p : ch_N) (L : Nat) (f : Nat → Int32) (k : Nat) : ch_N := nw (na (nw p 22 0 6 0) 30 0 (r_fw (p 30 0) L f k)) 22 0 12 (nI (L + k))
theorem r_fm_0 {p : ch_N} {L : Nat} {f : Nat → Int32} (h : p 22 0 12 = nI L) : nw p 22 0 6 0 = r_fm p L f 0 := by
  funext u i j
  unfold r_fm
  rw [r_fw_0, Nat.add_zero, ← h]
  simp only [nw_at, na_at]
  by_cases h1 : u = 22 ∧ i = 0 ∧ j = 12
  · obtain ⟨rfl, rfl, rfl⟩ := h1
    rw [if_neg (by omega), if_pos ⟨rfl, rfl, rfl⟩]
  · rw [if_neg h1]
    by_cases h2 : u = 30 ∧ i = 0
    · obtain ⟨rfl, rfl⟩ := h2
      rw [if_neg (by omega), if_pos ⟨rfl, rfl⟩]
    · rw [if_neg h2]
theorem r_fm_12 (p : ch_N) (L : Nat) (f : Nat → Int32) (k : Nat) : r_fm p L f k 22 0 12 = nI (L + k) := by unfold r_fm; rw [nw_at, if_pos ⟨rfl, rfl, rfl⟩]
theorem r_fm_s (p : ch_N) (L : Nat) (f : Nat → Int32) (k : Nat) : nw (nw (r_fm p L f k) 30 0 (L + k) (f k)) 22 0 12 (nI (L + (k + 1))) = r_fm p L f (k + 1) := by
  funext u i j
  unfold r_fm
  simp only [nw_at, na_at]
  by_cases h1 : u = 22 ∧ i = 0 ∧ j = 12
  · rw [if_pos h1, if_pos h1]
  · rw [if_neg h1, if_neg h1]
    by_cases h2 : u = 30 ∧ i = 0 ∧ j = L + k
    · obtain ⟨rfl, rfl, rfl⟩ := h2
      rw [if_pos ⟨rfl, rfl, rfl⟩, if_neg (by omega), if_pos ⟨rfl, rfl⟩]
      unfold r_fw
      rw [if_pos (by omega), Nat.add_sub_cancel_left]
    · rw [if_neg h2, if_neg h1]
      by_cases h3 : u = 30 ∧ i = 0
      · rw [if_pos h3, if_pos h3, ← r_fw_s, up_n (fun z => h2 ⟨h3.1, h3.2, z⟩)]
      · rw [if_neg h3, if_neg h3]
set_option maxHeartbeats 100000 in
theorem c_X12_feedF {l : Launch} {E : ch_E} {S : ch_S} {μ : ch_M} (hs : ch_Std E S) {n sn tx : ch_N} {F : Int32} {u : Nat} {hst : Nat → ch_N} (hJ : r_J n sn tx F u hst (μ 16)) {a b c d e : Int32} {L : Nat} (hL : tx 12 0 0 = nI L) (hL7 : L ≤ 700) (hfull : ¬ L + 20 ≤ 700) : ch_C E l yX12_feed cX12_feed 8 (some FieldType.int) 1 0 0 S μ [.ref (S.1 16 22 0), .int a, .int b, .int c, .int d, .int e] (ch_F (some (.int (-1))) S (r_th μ 0)) := by
  refine ch_enter rfl rfl ?_
  intro X hl0 h hG hR hnm
  have h : ch_H X E RX12 cX12_feed 8 := h
  have hN := hJ.1
  obtain ⟨L', hL1, hL2, hL3, hL4, hL5⟩ := id hJ.2.2.2
  have eLL : L' = L := (nI_eq (by omega) (by omega)).mp (hL2.symm.trans hL)
  show ch_W X E 8 S μ 0 0 0 [(0, .ref (S.1 16 22 0)), (1, .int a), (2, .int b), (3, .int c), (4, .int d), (5, .int e)] []
  refine ca_aload_nr h dX12_feed_0 rfl ?_
  refine ca_iconst h dX12_feed_1 ik_0 ?_
  refine pi_X12_70 h (hs.1 _ _ _ ⟨rfl, rfl⟩) dX12_feed_2 ?_
  refine ca_mem (μ'' := r_th μ 0) rfl ?_
  refine ca_aload_nr h dX12_feed_5 rfl ?_
  refine gi_X12_277 h (hs.1 _ _ _ ⟨rfl, rfl⟩) dX12_feed_6 ?_
  rw [(show r_th μ 0 16 22 0 12 = nI L by rw [r_th_16, nw_at, if_neg (by omega), hL3, eLL])]
  refine ca_bipush h dX12_feed_9 bk_20 ?_
  refine ca_iadd h dX12_feed_11 ?_
  refine ca_sipush h dX12_feed_12 sk_700 ?_
  refine ca_icmp_le (tgt := 20) h dX12_feed_15 (by decide) (fun c_15 => ?_) (fun c_15 => ?_)
  ·
    exact absurd (by rw [show (20 : Int32) = nI 20 from rfl, nI_add]; exact nI_lt (a := 700) (by omega) (by omega)) c_15
  ·
    refine ca_iconst h dX12_feed_18 ik_m1 ?_
    refine ca_ireturn h hR rfl dX12_feed_19 ?_
    exact ⟨rfl, rfl, rfl⟩
set_option maxHeartbeats 400000 in
theorem c_X12_feed {l : Launch} {E : ch_E} {S : ch_S} {μ : ch_M} (hs : ch_Std E S) {n sn tx : ch_N} {F : Int32} {u : Nat} {hst : Nat → ch_N} (hJ : r_J n sn tx F u hst (μ 16)) {a b c d e : Int32} {L : Nat} (hL : tx 12 0 0 = nI L) (hL7 : L ≤ 700) (hok : L + 20 ≤ 700) {tx' : ch_N} (t0 : tx' 12 0 0 = nI (L + 20)) (t2 : tx' 12 0 2 = tx 12 0 2) (t13 : ∀ i, i < L → tx' 13 0 i = tx 13 0 i) (t20 : ∀ k, k < 20 → tx' 13 0 (L + k) = r_by a b c d e k) : ch_C E l yX12_feed cX12_feed 8 (some FieldType.int) 1 0 0 S μ [.ref (S.1 16 22 0), .int a, .int b, .int c, .int d, .int e] (r_A (some (.int (nI (L + 20)))) 0 n sn tx' F u hst S μ) := by
  refine ch_enter rfl rfl ?_
  intro X hl0 h hG hR hnm
  have h : ch_H X E RX12 cX12_feed 8 := h
  have hN := hJ.1
  obtain ⟨L', hL1, hL2, hL3, hL4, hL5⟩ := id hJ.2.2.2
  have eLL : L' = L := (nI_eq (by omega) (by omega)).mp (hL2.symm.trans hL)
  show ch_W X E 8 S μ 0 0 0 [(0, .ref (S.1 16 22 0)), (1, .int a), (2, .int b), (3, .int c), (4, .int d), (5, .int e)] []
  refine ca_aload_nr h dX12_feed_0 rfl ?_
  refine ca_iconst h dX12_feed_1 ik_0 ?_
  refine pi_X12_70 h (hs.1 _ _ _ ⟨rfl, rfl⟩) dX12_feed_2 ?_
  refine ca_mem (μ'' := r_th μ 0) rfl ?_
  refine ca_aload_nr h dX12_feed_5 rfl ?_
  refine gi_X12_277 h (hs.1 _ _ _ ⟨rfl, rfl⟩) dX12_feed_6 ?_
  rw [(show r_th μ 0 16 22 0 12 = nI L by rw [r_th_16, nw_at, if_neg (by omega), hL3, eLL])]
  refine ca_bipush h dX12_feed_9 bk_20 ?_
  refine ca_iadd h dX12_feed_11 ?_
  refine ca_sipush h dX12_feed_12 sk_700 ?_
  refine ca_icmp_le (tgt := 20) h dX12_feed_15 (by decide) (fun c_15 => ?_) (fun c_15 => ?_)
  ·
    refine ca_iconst h dX12_feed_20 ik_0 ?_
    refine ca_istore h dX12_feed_21 rfl ?_
    have loop_23 : ∀ (jj k : Nat), k + jj = 20 → ∀ (x6 : Int32) (e6 : x6 = nI k) (mm : ch_M) (em : mm = up μ 16 (r_fm (μ 16) L (r_by a b c d e) k)), ch_W X E 8 S mm 0 0 23 [(0, .ref (S.1 16 22 0)), (1, .int a), (2, .int b), (3, .int c), (4, .int d), (5, .int e), (6, .int x6)] [] := by
      intro jj
      induction jj with
      | zero =>
        intro k hn x6 e6 mm em
        have hn : k = 20 := by omega
        subst e6 em
        refine ca_iload h dX12_feed_23 rfl ?_
        refine ca_bipush h dX12_feed_25 bk_20 ?_
        refine ca_icmp_ge (tgt := 120) h dX12_feed_27 (by decide) (fun c_27 => ?_) (fun c_27 => ?_)
        ·
          refine ca_aload_nr h dX12_feed_120 rfl ?_
          refine gi_X12_277 h (hs.1 _ _ _ ⟨rfl, rfl⟩) dX12_feed_121 ?_
          refine ca_top (show _ = nI (L + 20) by rw [up_s, r_fm_12, show k = 20 from hn]) ?_
          refine ca_ireturn h hR rfl dX12_feed_124 ?_
          refine ⟨rfl, rfl, _, rfl, by rw [show k = 20 from hn]; unfold r_fm; rw [nw_at, if_neg (by omega), na_k (by decide), nw_at, if_pos ⟨rfl, rfl, rfl⟩], ?_⟩
          rw [show k = 20 from hn]
          obtain ⟨-, ⟨b1, b2, b3⟩, ⟨c1, c2, c3⟩, -⟩ := hJ
          have ek : ∀ kd, kd ≠ 22 → kd ≠ 30 → r_fm (μ 16) L (r_by a b c d e) 20 kd = μ 16 kd := fun kd h1 h2 => by unfold r_fm; rw [nw_k h1, na_k h2, nw_k h1]
          have es : ∀ j, j ≠ 12 → j ≠ 6 → r_fm (μ 16) L (r_by a b c d e) 20 22 0 j = μ 16 22 0 j := fun j h1 h2 => by unfold r_fm; rw [nw_at, if_neg (fun z => h1 z.2.2), na_k (by decide), nw_at, if_neg (fun z => h2 z.2.2)]
          have e30 : r_fm (μ 16) L (r_by a b c d e) 20 30 0 = r_fw (μ 16 30 0) L (r_by a b c d e) 20 := by unfold r_fm; rw [nw_k (by decide), na_fn]
          refine ⟨by rw [ek 23 (by decide) (by decide)]; exact hN, ⟨by rw [es 7 (by decide) (by decide)]; exact b1, b2, fun z => by rw [ek 26 (by decide) (by decide)]; exact b3 z⟩, ⟨by rw [es 5 (by decide) (by decide)]; exact c1, c2, fun i hi => by rw [ek 27 (by decide) (by decide)]; exact c3 i hi⟩, L + 20, hok, t0, r_fm_12 _ _ _ _, fun i hi => ?_, by rw [es 19 (by decide) (by decide), t2]; exact hL5⟩
          rw [e30]
          unfold r_fw
          by_cases g : i < L
          · rw [if_neg (by omega), t13 i g]
            exact hL4 i (by omega)
          · rw [if_pos (by omega)]
            have e9 := t20 (i - L) (by omega)
            rw [show L + (i - L) = i by omega] at e9
            rw [e9]
            exact ⟨rfl, r_by_b a b c d e (i - L)⟩
        · exact absurd c_27 (nI_nlt (a := k) (b := 20) (by omega) (by omega))
      | succ jj ih_23 =>
        intro k hn x6 e6 mm em
        have hn1 : k < 20 := by omega
        subst e6 em
        refine ca_iload h dX12_feed_23 rfl ?_
        refine ca_bipush h dX12_feed_25 bk_20 ?_
        refine ca_icmp_ge (tgt := 120) h dX12_feed_27 (by decide) (fun c_27 => ?_) (fun c_27 => ?_)
        · exact absurd (nI_lt (a := k) (b := 20) hn1 (by decide)) c_27
        ·
          refine ca_iload h dX12_feed_30 rfl ?_
          refine ca_iconst h dX12_feed_32 ik_4 ?_
          refine ca_icmp_ge (tgt := 40) h dX12_feed_33 (by decide) (fun c_33 => ?_) (fun c_33 => ?_)
          ·
            refine ca_iload h dX12_feed_40 rfl ?_
            refine ca_bipush h dX12_feed_42 bk_8 ?_
            refine ca_icmp_ge (tgt := 51) h dX12_feed_44 (by decide) (fun c_44 => ?_) (fun c_44 => ?_)
            ·
              refine ca_iload h dX12_feed_51 rfl ?_
              refine ca_bipush h dX12_feed_53 bk_12 ?_
              refine ca_icmp_ge (tgt := 62) h dX12_feed_55 (by decide) (fun c_55 => ?_) (fun c_55 => ?_)
              ·
                refine ca_iload h dX12_feed_62 rfl ?_
                refine ca_bipush h dX12_feed_64 bk_16 ?_
                refine ca_icmp_ge (tgt := 74) h dX12_feed_66 (by decide) (fun c_66 => ?_) (fun c_66 => ?_)
                ·
                  refine ca_iload h dX12_feed_74 rfl ?_
                  have w33 : ¬ k < 4 := fun z => c_33 (nI_lt (b := 4) z (by decide))
                  have w44 : ¬ k < 8 := fun z => c_44 (nI_lt (b := 8) z (by decide))
                  have w55 : ¬ k < 12 := fun z => c_55 (nI_lt (b := 12) z (by decide))
                  have w66 : ¬ k < 16 := fun z => c_66 (nI_lt (b := 16) z (by decide))
                  have hw : r_wd5 a b c d e k = e := by unfold r_wd5; rw [if_neg w33, if_neg w44, if_neg w55, if_neg w66]
                  refine ca_istore h dX12_feed_76 rfl ?_
                  refine ca_aload_nr h dX12_feed_78 rfl ?_
                  refine gs_X12_31 h hs ⟨rfl, rfl⟩ dX12_feed_79 ?_
                  refine ca_aload_nr h dX12_feed_82 rfl ?_
                  refine gi_X12_277 h (hs.1 _ _ _ ⟨rfl, rfl⟩) dX12_feed_83 ?_
                  refine ca_top (show _ = nI (L + k) by rw [up_s, r_fm_12]) ?_
                  refine ca_iload h dX12_feed_86 rfl ?_
                  refine ca_bipush h dX12_feed_88 bk_24 ?_
                  refine ca_bipush h dX12_feed_90 bk_8 ?_
                  refine ca_iload h dX12_feed_92 rfl ?_
                  refine ca_iconst h dX12_feed_94 ik_4 ?_
                  refine ca_irem h dX12_feed_95 (by decide) ?_
                  refine ca_imul h dX12_feed_96 ?_
                  refine ca_isub h dX12_feed_97 ?_
                  refine ca_ishr h dX12_feed_98 ?_
                  refine ca_sipush h dX12_feed_99 sk_255 ?_
                  refine ca_iand h dX12_feed_102 ?_
                  refine ca_top (show _ = r_by a b c d e k by unfold r_by; rw [hw]; exact r_by_e _ (by omega)) ?_
                  refine ca_iast h rfl (hs.1 _ _ _ ⟨rfl, rfl⟩) (vp_in_nI (by omega) (by decide)) dX12_feed_103 ?_
                  refine ca_aload_nr h dX12_feed_104 rfl ?_
                  refine ca_dup h dX12_feed_105 rfl ?_
                  refine gi_X12_277 h (hs.1 _ _ _ ⟨rfl, rfl⟩) dX12_feed_106 ?_
                  refine ca_top (show _ = nI (L + k) by rw [ch_st_nw, up_s, up_s, nw_at, if_neg (by omega), r_fm_12]) ?_
                  refine ca_iconst h dX12_feed_109 ik_1 ?_
                  refine ca_iadd h dX12_feed_110 ?_
                  refine pi_X12_277 h (hs.1 _ _ _ ⟨rfl, rfl⟩) dX12_feed_111 ?_
                  refine ca_iinc h dX12_feed_114 rfl ik_1 rfl ?_
                  refine ca_goto (tgt := 23) h dX12_feed_117 (by decide) ?_
                  refine ca_pick [2, 3, 4, 5, 6, 7, 0] rfl ?_
                  exact ih_23 (k + 1) (by omega) _ (nI_1 k) _ (by rw [ch_st_nw, ch_st_nw, up_s, up_s, up_up, up_up, nI_clamp (by omega), nI_1]; exact congrArg (up μ 16) (r_fm_s (μ 16) L (r_by a b c d e) k))
                ·
                  refine ca_iload h dX12_feed_69 rfl ?_
                  refine ca_goto (tgt := 76) h dX12_feed_71 (by decide) ?_
                  have w33 : ¬ k < 4 := fun z => c_33 (nI_lt (b := 4) z (by decide))
                  have w44 : ¬ k < 8 := fun z => c_44 (nI_lt (b := 8) z (by decide))
                  have w55 : ¬ k < 12 := fun z => c_55 (nI_lt (b := 12) z (by decide))
                  have hw : r_wd5 a b c d e k = d := by unfold r_wd5; rw [if_neg w33, if_neg w44, if_neg w55, if_pos ((nI_ltI (b := 16) (by omega) (by decide)).mp c_66)]
                  refine ca_istore h dX12_feed_76 rfl ?_
                  refine ca_aload_nr h dX12_feed_78 rfl ?_
                  refine gs_X12_31 h hs ⟨rfl, rfl⟩ dX12_feed_79 ?_
                  refine ca_aload_nr h dX12_feed_82 rfl ?_
                  refine gi_X12_277 h (hs.1 _ _ _ ⟨rfl, rfl⟩) dX12_feed_83 ?_
                  refine ca_top (show _ = nI (L + k) by rw [up_s, r_fm_12]) ?_
                  refine ca_iload h dX12_feed_86 rfl ?_
                  refine ca_bipush h dX12_feed_88 bk_24 ?_
                  refine ca_bipush h dX12_feed_90 bk_8 ?_
                  refine ca_iload h dX12_feed_92 rfl ?_
                  refine ca_iconst h dX12_feed_94 ik_4 ?_
                  refine ca_irem h dX12_feed_95 (by decide) ?_
                  refine ca_imul h dX12_feed_96 ?_
                  refine ca_isub h dX12_feed_97 ?_
                  refine ca_ishr h dX12_feed_98 ?_
                  refine ca_sipush h dX12_feed_99 sk_255 ?_
                  refine ca_iand h dX12_feed_102 ?_
                  refine ca_top (show _ = r_by a b c d e k by unfold r_by; rw [hw]; exact r_by_e _ (by omega)) ?_
                  refine ca_iast h rfl (hs.1 _ _ _ ⟨rfl, rfl⟩) (vp_in_nI (by omega) (by decide)) dX12_feed_103 ?_
                  refine ca_aload_nr h dX12_feed_104 rfl ?_
                  refine ca_dup h dX12_feed_105 rfl ?_
                  refine gi_X12_277 h (hs.1 _ _ _ ⟨rfl, rfl⟩) dX12_feed_106 ?_
                  refine ca_top (show _ = nI (L + k) by rw [ch_st_nw, up_s, up_s, nw_at, if_neg (by omega), r_fm_12]) ?_
                  refine ca_iconst h dX12_feed_109 ik_1 ?_
                  refine ca_iadd h dX12_feed_110 ?_
                  refine pi_X12_277 h (hs.1 _ _ _ ⟨rfl, rfl⟩) dX12_feed_111 ?_
                  refine ca_iinc h dX12_feed_114 rfl ik_1 rfl ?_
                  refine ca_goto (tgt := 23) h dX12_feed_117 (by decide) ?_
                  refine ca_pick [2, 3, 4, 5, 6, 7, 0] rfl ?_
                  exact ih_23 (k + 1) (by omega) _ (nI_1 k) _ (by rw [ch_st_nw, ch_st_nw, up_s, up_s, up_up, up_up, nI_clamp (by omega), nI_1]; exact congrArg (up μ 16) (r_fm_s (μ 16) L (r_by a b c d e) k))
              ·
                refine ca_iload_n h dX12_feed_58 rfl ?_
                refine ca_goto (tgt := 76) h dX12_feed_59 (by decide) ?_
                have w33 : ¬ k < 4 := fun z => c_33 (nI_lt (b := 4) z (by decide))
                have w44 : ¬ k < 8 := fun z => c_44 (nI_lt (b := 8) z (by decide))
                have hw : r_wd5 a b c d e k = c := by unfold r_wd5; rw [if_neg w33, if_neg w44, if_pos ((nI_ltI (b := 12) (by omega) (by decide)).mp c_55)]
                refine ca_istore h dX12_feed_76 rfl ?_
                refine ca_aload_nr h dX12_feed_78 rfl ?_
                refine gs_X12_31 h hs ⟨rfl, rfl⟩ dX12_feed_79 ?_
                refine ca_aload_nr h dX12_feed_82 rfl ?_
                refine gi_X12_277 h (hs.1 _ _ _ ⟨rfl, rfl⟩) dX12_feed_83 ?_
                refine ca_top (show _ = nI (L + k) by rw [up_s, r_fm_12]) ?_
                refine ca_iload h dX12_feed_86 rfl ?_
                refine ca_bipush h dX12_feed_88 bk_24 ?_
                refine ca_bipush h dX12_feed_90 bk_8 ?_
                refine ca_iload h dX12_feed_92 rfl ?_
                refine ca_iconst h dX12_feed_94 ik_4 ?_
                refine ca_irem h dX12_feed_95 (by decide) ?_
                refine ca_imul h dX12_feed_96 ?_
                refine ca_isub h dX12_feed_97 ?_
                refine ca_ishr h dX12_feed_98 ?_
                refine ca_sipush h dX12_feed_99 sk_255 ?_
                refine ca_iand h dX12_feed_102 ?_
                refine ca_top (show _ = r_by a b c d e k by unfold r_by; rw [hw]; exact r_by_e _ (by omega)) ?_
                refine ca_iast h rfl (hs.1 _ _ _ ⟨rfl, rfl⟩) (vp_in_nI (by omega) (by decide)) dX12_feed_103 ?_
                refine ca_aload_nr h dX12_feed_104 rfl ?_
                refine ca_dup h dX12_feed_105 rfl ?_
                refine gi_X12_277 h (hs.1 _ _ _ ⟨rfl, rfl⟩) dX12_feed_106 ?_
                refine ca_top (show _ = nI (L + k) by rw [ch_st_nw, up_s, up_s, nw_at, if_neg (by omega), r_fm_12]) ?_
                refine ca_iconst h dX12_feed_109 ik_1 ?_
                refine ca_iadd h dX12_feed_110 ?_
                refine pi_X12_277 h (hs.1 _ _ _ ⟨rfl, rfl⟩) dX12_feed_111 ?_
                refine ca_iinc h dX12_feed_114 rfl ik_1 rfl ?_
                refine ca_goto (tgt := 23) h dX12_feed_117 (by decide) ?_
                refine ca_pick [2, 3, 4, 5, 6, 7, 0] rfl ?_
                exact ih_23 (k + 1) (by omega) _ (nI_1 k) _ (by rw [ch_st_nw, ch_st_nw, up_s, up_s, up_up, up_up, nI_clamp (by omega), nI_1]; exact congrArg (up μ 16) (r_fm_s (μ 16) L (r_by a b c d e) k))
            ·
              refine ca_iload_n h dX12_feed_47 rfl ?_
              refine ca_goto (tgt := 76) h dX12_feed_48 (by decide) ?_
              have w33 : ¬ k < 4 := fun z => c_33 (nI_lt (b := 4) z (by decide))
              have hw : r_wd5 a b c d e k = b := by unfold r_wd5; rw [if_neg w33, if_pos ((nI_ltI (b := 8) (by omega) (by decide)).mp c_44)]
              refine ca_istore h dX12_feed_76 rfl ?_
              refine ca_aload_nr h dX12_feed_78 rfl ?_
              refine gs_X12_31 h hs ⟨rfl, rfl⟩ dX12_feed_79 ?_
              refine ca_aload_nr h dX12_feed_82 rfl ?_
              refine gi_X12_277 h (hs.1 _ _ _ ⟨rfl, rfl⟩) dX12_feed_83 ?_
              refine ca_top (show _ = nI (L + k) by rw [up_s, r_fm_12]) ?_
              refine ca_iload h dX12_feed_86 rfl ?_
              refine ca_bipush h dX12_feed_88 bk_24 ?_
              refine ca_bipush h dX12_feed_90 bk_8 ?_
              refine ca_iload h dX12_feed_92 rfl ?_
              refine ca_iconst h dX12_feed_94 ik_4 ?_
              refine ca_irem h dX12_feed_95 (by decide) ?_
              refine ca_imul h dX12_feed_96 ?_
              refine ca_isub h dX12_feed_97 ?_
              refine ca_ishr h dX12_feed_98 ?_
              refine ca_sipush h dX12_feed_99 sk_255 ?_
              refine ca_iand h dX12_feed_102 ?_
              refine ca_top (show _ = r_by a b c d e k by unfold r_by; rw [hw]; exact r_by_e _ (by omega)) ?_
              refine ca_iast h rfl (hs.1 _ _ _ ⟨rfl, rfl⟩) (vp_in_nI (by omega) (by decide)) dX12_feed_103 ?_
              refine ca_aload_nr h dX12_feed_104 rfl ?_
              refine ca_dup h dX12_feed_105 rfl ?_
              refine gi_X12_277 h (hs.1 _ _ _ ⟨rfl, rfl⟩) dX12_feed_106 ?_
              refine ca_top (show _ = nI (L + k) by rw [ch_st_nw, up_s, up_s, nw_at, if_neg (by omega), r_fm_12]) ?_
              refine ca_iconst h dX12_feed_109 ik_1 ?_
              refine ca_iadd h dX12_feed_110 ?_
              refine pi_X12_277 h (hs.1 _ _ _ ⟨rfl, rfl⟩) dX12_feed_111 ?_
              refine ca_iinc h dX12_feed_114 rfl ik_1 rfl ?_
              refine ca_goto (tgt := 23) h dX12_feed_117 (by decide) ?_
              refine ca_pick [2, 3, 4, 5, 6, 7, 0] rfl ?_
              exact ih_23 (k + 1) (by omega) _ (nI_1 k) _ (by rw [ch_st_nw, ch_st_nw, up_s, up_s, up_up, up_up, nI_clamp (by omega), nI_1]; exact congrArg (up μ 16) (r_fm_s (μ 16) L (r_by a b c d e) k))
          ·
            refine ca_iload_n h dX12_feed_36 rfl ?_
            refine ca_goto (tgt := 76) h dX12_feed_37 (by decide) ?_
            have hw : r_wd5 a b c d e k = a := if_pos ((nI_ltI (b := 4) (by omega) (by decide)).mp c_33)
            refine ca_istore h dX12_feed_76 rfl ?_
            refine ca_aload_nr h dX12_feed_78 rfl ?_
            refine gs_X12_31 h hs ⟨rfl, rfl⟩ dX12_feed_79 ?_
            refine ca_aload_nr h dX12_feed_82 rfl ?_
            refine gi_X12_277 h (hs.1 _ _ _ ⟨rfl, rfl⟩) dX12_feed_83 ?_
            refine ca_top (show _ = nI (L + k) by rw [up_s, r_fm_12]) ?_
            refine ca_iload h dX12_feed_86 rfl ?_
            refine ca_bipush h dX12_feed_88 bk_24 ?_
            refine ca_bipush h dX12_feed_90 bk_8 ?_
            refine ca_iload h dX12_feed_92 rfl ?_
            refine ca_iconst h dX12_feed_94 ik_4 ?_
            refine ca_irem h dX12_feed_95 (by decide) ?_
            refine ca_imul h dX12_feed_96 ?_
            refine ca_isub h dX12_feed_97 ?_
            refine ca_ishr h dX12_feed_98 ?_
            refine ca_sipush h dX12_feed_99 sk_255 ?_
            refine ca_iand h dX12_feed_102 ?_
            refine ca_top (show _ = r_by a b c d e k by unfold r_by; rw [hw]; exact r_by_e _ (by omega)) ?_
            refine ca_iast h rfl (hs.1 _ _ _ ⟨rfl, rfl⟩) (vp_in_nI (by omega) (by decide)) dX12_feed_103 ?_
            refine ca_aload_nr h dX12_feed_104 rfl ?_
            refine ca_dup h dX12_feed_105 rfl ?_
            refine gi_X12_277 h (hs.1 _ _ _ ⟨rfl, rfl⟩) dX12_feed_106 ?_
            refine ca_top (show _ = nI (L + k) by rw [ch_st_nw, up_s, up_s, nw_at, if_neg (by omega), r_fm_12]) ?_
            refine ca_iconst h dX12_feed_109 ik_1 ?_
            refine ca_iadd h dX12_feed_110 ?_
            refine pi_X12_277 h (hs.1 _ _ _ ⟨rfl, rfl⟩) dX12_feed_111 ?_
            refine ca_iinc h dX12_feed_114 rfl ik_1 rfl ?_
            refine ca_goto (tgt := 23) h dX12_feed_117 (by decide) ?_
            refine ca_pick [2, 3, 4, 5, 6, 7, 0] rfl ?_
            exact ih_23 (k + 1) (by omega) _ (nI_1 k) _ (by rw [ch_st_nw, ch_st_nw, up_s, up_s, up_up, up_up, nI_clamp (by omega), nI_1]; exact congrArg (up μ 16) (r_fm_s (μ 16) L (r_by a b c d e) k))
    refine ca_pick [1, 2, 3, 4, 5, 6, 0] rfl ?_
    exact loop_23 20 0 (Nat.zero_add _) _ rfl _ (by unfold r_th; rw [r_fm_0 (L := L) (by rw [hL3, eLL])])
  · exact absurd c_15 (by rw [show (20 : Int32) = nI 20 from rfl, nI_add]; exact nI_nlt (a := 700) (b := L + 20) (by omega) (by decide))
set_option maxHeartbeats 100000 in
theorem c_X12_errorPosition {l : Launch} {E : ch_E} {S : ch_S} {μ : ch_M} (hs : ch_Std E S) {n sn tx : ch_N} {F : Int32} {u : Nat} {hst : Nat → ch_N} (hJ : r_J n sn tx F u hst (μ 16)) : ch_C E l yX12_errorPosition cX12_errorPosition 1 (some FieldType.int) 1 0 0 S μ [.ref (S.1 16 22 0)] (ch_F (some (.int (tx 12 0 2))) S (r_th μ 0)) := by
  refine ch_enter rfl rfl ?_
  intro X hl0 h hG hR hnm
  have h : ch_H X E RX12 cX12_errorPosition 1 := h
  obtain ⟨L', hL1, hL2, hL3, hL4, hL5⟩ := id hJ.2.2.2
  show ch_W X E 1 S μ 0 0 0 [(0, .ref (S.1 16 22 0))] []
  refine ca_aload_nr h dX12_errorPosition_0 rfl ?_
  refine ca_iconst h dX12_errorPosition_1 ik_0 ?_
  refine pi_X12_70 h (hs.1 _ _ _ ⟨rfl, rfl⟩) dX12_errorPosition_2 ?_
  refine ca_mem (μ'' := r_th μ 0) rfl ?_
  refine ca_aload_nr h dX12_errorPosition_5 rfl ?_
  refine gi_X12_34 h (hs.1 _ _ _ ⟨rfl, rfl⟩) dX12_errorPosition_6 ?_
  refine ca_ireturn h hR rfl dX12_errorPosition_9 ?_
  exact ⟨by rw [r_th_16, nw_at, if_neg (by omega), hL5], rfl, rfl⟩
