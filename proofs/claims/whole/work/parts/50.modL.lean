/-! THE REFERENCE: a call set up; the best hysteresis -/
theorem r_cov {n : ch_N} (x y : Int32) : k_cov n x y = -1 ∨ ∃ s, s < k_cc n ∧ k_cov n x y = nI s := by
  unfold k_cov
  rcases k_ld_inv n x y (k_cc n) with ⟨h1, -, -⟩ | ⟨b, hb, h1, -⟩
  · rw [if_pos h1]; exact Or.inl rfl
  · split
    · exact Or.inl rfl
    · split
      · exact Or.inr ⟨b, hb, h1⟩
      · exact Or.inl rfl
/-- an idle mobile waits for its set-up -/
theorem r_N_rqW {n : ch_N} {w : Nat → Int32} {m c : Nat} (h : r_N n w) (hm : m < k_mc n) (ht : n 3 m 4 = 0) (h6 : 0 < n 3 m 6) (hc : c < k_cc n) : r_N (k_wfs n m (nI c) (n 0 0 3)) (r_rq (up w (210 + 91 * m + 4) 2) m (nI c) 1 (w 3)) := by
  have hc8 := r_c8 h hc
  have hw3 := h.1 3 (by decide)
  obtain ⟨a1, a2, a3, a4, a5, a6, a7, a8, a9, a10, a11, a12, a13, a14⟩ := h.2.2.2.2.1 m hm
  have hwf : k_wf (k_wfs n m (nI c) (n 0 0 3)) := k_mrq_wf (nw3_wf h.2.2.2.2.2 _ _ _) m (nI c) (n 0 0 3)
  have e3 : ∀ j, (k_wfs n m (nI c) (n 0 0 3)) 3 m j = if j = 9 then n 0 0 3 else if j = 8 then nI c else if j = 4 then 2 else n 3 m j := by
    intro j
    unfold k_wfs k_mrq
    simp only [nw_at]
    by_cases g9 : j = 9
    · subst g9; simp
    by_cases g8 : j = 8
    · subst g8; simp
    by_cases g4 : j = 4
    · subst g4; simp
    simp [g9, g8, g4]
  have ek : ∀ kd, kd ≠ 3 → (k_wfs n m (nI c) (n 0 0 3)) kd = n kd := fun kd h3 => by unfold k_wfs k_mrq; rw [nw_k h3, nw_k h3, nw_k h3]
  have hoff : ∀ kd i, i ≠ m → (k_wfs n m (nI c) (n 0 0 3)) kd i = n kd i := fun kd i hi => by funext j; unfold k_wfs k_mrq; simp [nw_at, hi]
  generalize k_wfs n m (nI c) (n 0 0 3) = n' at *
  have ec : k_cc n' = k_cc n := by unfold k_cc; rw [ek 0 (by decide)]
  have ew : ∀ i, r_rq (up w (210 + 91 * m + 4) 2) m (nI c) 1 (w 3) i = if i = 210 + 91 * m + 10 then w 3 else if i = 210 + 91 * m + 9 then 1 else if i = 210 + 91 * m + 8 then nI c else if i = 210 + 91 * m + 4 then 2 else w i := fun i => rfl
  have s4 : n' 3 m 4 = 2 := by rw [e3, if_neg (by decide), if_neg (by decide), if_pos rfl]
  have s8 : n' 3 m 8 = nI c := by rw [e3, if_neg (by decide), if_pos rfl]
  have s9 : n' 3 m 9 = n 0 0 3 := by rw [e3, if_pos rfl]
  have n1 : ¬ n 3 m 4 = 1 := by rw [ht]; decide
  have b1 : ¬ (2 : Int32) = 1 := by decide
  refine r_N_mob h hm (fun kd h3 _ _ _ => ek kd h3) hoff (fun j hj => by rw [ew, if_neg (by omega), if_neg (by omega), if_neg (by omega), if_neg (by omega)]) ?_ hwf
  unfold r_M
  rw [s4, s8, s9, ek 2 (by decide), ek 4 (by decide), ek 5 (by decide), ek 6 (by decide), ec]
  refine ⟨fun f hf => ?_, by rw [ew, if_neg (by omega), if_neg (by omega), if_pos rfl], fun z => absurd z b1, fun _ => ⟨by rw [ew, if_pos rfl, hw3], by rw [ew, if_neg (by omega), if_pos rfl, if_neg b1]⟩, Or.inr (Or.inr rfl), fun z => absurd z b1, fun _ => ⟨by rw [e3, if_neg (by decide), if_neg (by decide), if_neg (by decide)]; exact (a7 n1).1, (a7 n1).2⟩, fun z => absurd z (by decide), fun _ => nI_nm1 (by omega), Or.inr ⟨c, hc, rfl⟩, fun _ => by rw [e3, if_neg (by decide), if_neg (by decide), if_neg (by decide)]; exact h6, fun z => absurd z b1, ?_, fun z => absurd z b1⟩
  · by_cases g : f = 4
    · subst g; rw [ew, if_neg (by omega), if_neg (by omega), if_neg (by omega), if_pos rfl, e3, if_neg (by decide), if_neg (by decide), if_pos rfl]
    · rw [ew, if_neg (by omega), if_neg (by omega), if_neg (by omega), if_neg (by omega), e3, if_neg (by omega), if_neg (by omega), if_neg g]; exact a1 f hf
  · rw [e3, e3, if_neg (by omega), if_neg (by omega), if_neg (by omega), if_neg (by omega), if_neg (by omega), if_neg (by omega)]; exact a13
theorem r_rcfree (n : ch_N) (s x y : Int32) : ∀ N b, (k_rc n s x y N).1 = nI b → b < 2 ^ 31 → k_free n (nI b) = true
  | 0, b, h, hb => absurd h.symm (nI_nm1 hb)
  | N + 1, b, h, hb => by
    have e : k_rc n s x y (N + 1) = if ¬ n 2 (k_rx s (nI N)) 0 = 0 ∧ (k_rc n s x y N).2 < k_lv n N x y ∧ k_use n (nI N) x y = true ∧ k_free n (nI N) = true then (nI N, k_lv n N x y) else k_rc n s x y N := rfl
    by_cases g : ¬ n 2 (k_rx s (nI N)) 0 = 0 ∧ (k_rc n s x y N).2 < k_lv n N x y ∧ k_use n (nI N) x y = true ∧ k_free n (nI N) = true
    · rw [e, if_pos g] at h
      rw [← show nI N = nI b from h]
      exact g.2.2.2
    · rw [e, if_neg g] at h
      exact r_rcfree n s x y N b h hb
set_option maxHeartbeats 400000 in
theorem c_X12_call {l : Launch} {E : ch_E} {S : ch_S} {μ : ch_M} (hs : ch_Std E S) {n sn tx : ch_N} {F : Int32} {u : Nat} {hst : Nat → ch_N} (hJ : r_J n sn tx F u hst (μ 16)) {m : Nat} (hm : m < k_mc n) {d : Int32} (hd : ¬ d < 1 ∧ ¬ 500 < d) (h0 : n 3 m 4 = 0) {s : Nat} (hsc : s < k_cc n) (hcv : k_cov n (n 3 m 0) (n 3 m 1) = nI s) (h60 : n 3 m 6 = 0) : ch_C E l yX12_call cX12_call 5 (some FieldType.int) 6 0 0 S μ [.ref (S.1 16 22 0), .int (nI m), .int d] (r_A (some (.int (k_su n m d (nI s)).1)) 0 (k_su n m d (nI s)).2 sn tx F (r_pu u) (r_ph hst u n) S μ) := by
  refine ch_enter rfl rfl ?_
  intro X hl0 h hG hR hnm
  have h : ch_H X E RX12 cX12_call 5 := h
  have hN := hJ.1
  have hm12 := r_m12 hN hm
  have hs8 := r_c8 hN hsc
  have hd0 : 0 < d := Int32.lt_of_lt_of_le (by decide) (Int32.not_lt.mp hd.1)
  show ch_W X E 5 S μ 0 0 0 [(0, .ref (S.1 16 22 0)), (1, .int (nI m)), (2, .int d)] []
  refine ca_aload_nr h dX12_call_0 rfl ?_
  refine ca_iconst h dX12_call_1 ik_0 ?_
  refine pi_X12_70 h (hs.1 _ _ _ ⟨rfl, rfl⟩) dX12_call_2 ?_
  refine ca_mem (μ'' := r_th μ 0) rfl ?_
  refine ca_aload_nr h dX12_call_5 rfl ?_
  refine ca_iload_n h dX12_call_6 rfl ?_
  refine ca_vi h hG ml_X12_170 (c_X12_isMobile hs) (ci := 12) rfl rfl rfl (hs.1 _ _ _ ⟨rfl, rfl⟩) rfl rfl rfl rfl ⟨Nat.le_refl _, Nat.le_refl _⟩ rfl dX12_call_7 ?_
  refine ca_if_ne (tgt := 19) h dX12_call_10 (by decide) (fun c_10 => ?_) (fun c_10 => ?_)
  ·
    refine ca_iload_n h dX12_call_19 rfl ?_
    refine ca_iconst h dX12_call_20 ik_1 ?_
    refine ca_sipush h dX12_call_21 sk_500 ?_
    refine ca_si h hG ms_X12_73 (c_X12_inRange) rfl rfl rfl rfl ⟨Nat.le_refl _, Nat.le_refl _⟩ rfl dX12_call_24 ?_
    refine ca_if_ne (tgt := 36) h dX12_call_27 (by decide) (fun c_27 => ?_) (fun c_27 => ?_)
    ·
      refine ca_aload_nr h dX12_call_36 rfl ?_
      refine ca_iload_n h dX12_call_37 rfl ?_
      refine ca_iconst h dX12_call_38 ik_4 ?_
      refine ca_vi h hG ml_X12_77 (c_X12_of hs hm12 (by decide)) (ci := 12) rfl rfl rfl (hs.1 _ _ _ ⟨rfl, rfl⟩) rfl rfl rfl rfl ⟨Nat.le_refl _, Nat.le_refl _⟩ rfl dX12_call_39 ?_
      refine ca_top (show _ = n 3 m 4 by rw [r_th_23, r_f hN hm (f := 4) (by decide)]) ?_
      refine ca_if_eq (tgt := 48) h dX12_call_42 (by decide) (fun c_42 => ?_) (fun c_42 => ?_)
      ·
        refine ca_aload_nr h dX12_call_48 rfl ?_
        refine ca_aload_nr h dX12_call_49 rfl ?_
        refine ca_iload_n h dX12_call_50 rfl ?_
        refine ca_iconst h dX12_call_51 ik_0 ?_
        refine ca_vi h hG ml_X12_77 (c_X12_of hs hm12 (by decide)) (ci := 12) rfl rfl rfl (hs.1 _ _ _ ⟨rfl, rfl⟩) rfl rfl rfl rfl ⟨Nat.le_refl _, Nat.le_refl _⟩ rfl dX12_call_52 ?_
        refine ca_aload_nr h dX12_call_55 rfl ?_
        refine ca_iload_n h dX12_call_56 rfl ?_
        refine ca_iconst h dX12_call_57 ik_1 ?_
        refine ca_vi h hG ml_X12_77 (c_X12_of hs hm12 (by decide)) (ci := 12) rfl rfl rfl (hs.1 _ _ _ ⟨rfl, rfl⟩) rfl rfl rfl rfl ⟨Nat.le_refl _, Nat.le_refl _⟩ rfl dX12_call_58 ?_
        rw [r_th_23, r_f hN hm (f := 0) (by decide), r_f hN hm (f := 1) (by decide)]
        refine ca_vi h hG ml_X12_114 (c_X12_covering hs (n := n) (by rw [r_th_23]; exact hN)) (ci := 12) rfl rfl rfl (hs.1 _ _ _ ⟨rfl, rfl⟩) rfl rfl rfl rfl ⟨Nat.le_refl _, Nat.le_refl _⟩ rfl dX12_call_61 ?_
        rw [hcv]
        refine ca_istore_n h dX12_call_64 rfl ?_
        refine ca_iload_n h dX12_call_65 rfl ?_
        refine ca_iconst h dX12_call_66 ik_m1 ?_
        refine ca_icmp_ne (tgt := 73) h dX12_call_67 (by decide) (fun c_67 => ?_) (fun c_67 => ?_)
        ·
          refine ca_aload_nr h dX12_call_73 rfl ?_
          refine ca_vXv h hG ml_X12_173 (c_X12_record hs (n := n) (sn := sn) (tx := tx) (F := F) (u := u) (hst := hst) (r_J_thm hJ)) (ci := 12) rfl rfl rfl (hs.1 _ _ _ ⟨rfl, rfl⟩) rfl rfl rfl rfl ⟨Nat.le_refl _, Nat.le_refl _⟩ rfl dX12_call_74 ?_
          intro μ9 hμ9
          obtain ⟨p, rfl, h6, e23, hJ1⟩ := hμ9
          rw [r_th_up] 
          rw [r_th_16, nw_at, if_pos ⟨rfl, rfl, rfl⟩] at h6
          rw [r_th_23] at e23
          have hN1 : r_N n (up μ 16 p 16 23 0) := by rw [up_s, e23]; exact hN
          refine ca_aload_nr h dX12_call_77 rfl ?_
          refine ca_iload_n h dX12_call_78 rfl ?_
          refine ca_bipush h dX12_call_79 bk_6 ?_
          refine ca_iload_n h dX12_call_81 rfl ?_
          refine ca_vv h hG ml_X12_147 (c_X12_put hs hm12 (f := 6) (by decide)) (ci := 12) rfl rfl rfl (hs.1 _ _ _ ⟨rfl, rfl⟩) rfl rfl rfl rfl ⟨Nat.le_refl _, Nat.le_refl _⟩ rfl dX12_call_82 ?_
          refine ca_mem (μ'' := r_wr (up μ 16 p) (up (up μ 16 p 16 23 0) (210 + 91 * m + 6) d)) (by rw [r_put0]) ?_
          have hNd : r_N (nw n 3 m 6 d) (up (up μ 16 p 16 23 0) (210 + 91 * m + 6) d) := r_N_set (f := 6) hN1 hm (by omega) (fun _ _ => hd0) (fun z => by omega)
          have ecn1 : k_cc (nw n 3 m 6 d) = k_cc n := r_cc0 (nw_k (by decide))
          have emn1 : k_mc (nw n 3 m 6 d) = k_mc n := r_mc0 (nw_k (by decide))
          have e3o : ∀ i f, f ≠ 6 → (nw n 3 m 6 d) 3 i f = n 3 i f := fun i f hf => by rw [nw_at, if_neg (fun z => hf z.2.2)]
          have etk : ∀ c, k_tk (nw n 3 m 6 d) c = k_tk n c := fun c => by unfold k_tk; rw [emn1]; exact kf_congr (k_mc n) 0 (fun i y _ => by rw [e3o i 4 (by decide), e3o i 5 (by decide)])
          have erq : ∀ c, k_rq (nw n 3 m 6 d) c = k_rq n c := fun c => by unfold k_rq; rw [emn1]; exact kf_congr (k_mc n) 0 (fun i y _ => by rw [e3o i 8 (by decide)])
          have efr : ∀ c, k_free (nw n 3 m 6 d) c = k_free n c := fun c => by unfold k_free; rw [etk, nw_k (show (1 : Nat) ≠ 3 by decide)]
          have epl : ∀ c, k_place (nw n 3 m 6 d) c = k_place n c := fun c => by unfold k_place; rw [erq, nw_k (show (1 : Nat) ≠ 3 by decide)]
          have elv : ∀ c x y, k_lv (nw n 3 m 6 d) c x y = k_lv n c x y := fun c x y => by unfold k_lv; rw [nw_k (by decide)]
          have eus : ∀ c x y, k_use (nw n 3 m 6 d) c x y = k_use n c x y := fun c x y => by unfold k_use; rw [elv, nw_k (by decide)]
          have exy : ∀ f, f ≠ 6 → (nw n 3 m 6 d) 3 m f = n 3 m f := fun f hf => by rw [nw_at, if_neg (fun z => hf z.2.2)]
          have erc0 : ∀ s x y N, k_rc (nw n 3 m 6 d) s x y N = k_rc n s x y N := fun s x y N => by unfold k_rc; exact kf_congr N (-1, -1) (fun i r _ => by rw [nw_k (by decide), elv, eus, efr])
          refine ca_aload_nr h dX12_call_85 rfl ?_
          refine ca_iload_n h dX12_call_86 rfl ?_
          refine ca_vi h hG ml_X12_167 (c_X12_hasFreeChannel hs (n := (nw n 3 m 6 d)) (by rw [r_wr_at]; exact hNd) (by rw [ecn1]; exact hsc)) (ci := 12) rfl rfl rfl (hs.1 _ _ _ ⟨rfl, rfl⟩) rfl rfl rfl rfl ⟨Nat.le_refl _, Nat.le_refl _⟩ rfl dX12_call_87 ?_
          refine ca_if_eq (tgt := 101) h dX12_call_90 (by decide) (fun c_90 => ?_) (fun c_90 => ?_)
          ·
            have hfr : ¬ k_free n (nI s) = true := by rw [← efr]; exact fun z => bI_n0.mpr z c_90
            refine ca_aload_nr h dX12_call_101 rfl ?_
            refine ca_iload_n h dX12_call_102 rfl ?_
            refine ca_iload_n h dX12_call_103 rfl ?_
            refine ca_vi h hG ml_X12_180 (c_X12_retryCell hs (n := (nw n 3 m 6 d)) (by rw [r_wr_at]; exact hNd) (by rw [emn1]; exact hm) (by rw [ecn1]; exact hsc)) (ci := 12) rfl rfl rfl (hs.1 _ _ _ ⟨rfl, rfl⟩) rfl rfl rfl rfl ⟨Nat.le_refl _, Nat.le_refl _⟩ rfl dX12_call_104 ?_
            rw [exy 0 (by decide), exy 1 (by decide), ecn1, erc0]
            refine ca_istore h dX12_call_107 rfl ?_
            refine ca_iload h dX12_call_109 rfl ?_
            refine ca_iconst h dX12_call_111 ik_m1 ?_
            refine ca_icmp_eq (tgt := 130) h dX12_call_112 (by decide) (fun c_112 => ?_) (fun c_112 => ?_)
            ·
              have erc : (k_rc n (nI s) (n 3 m 0) (n 3 m 1) (k_cc n)).1 = -1 := c_112
              refine ca_aload_nr h dX12_call_130 rfl ?_
              refine ca_iload_n h dX12_call_131 rfl ?_
              refine ca_vi h hG ml_X12_186 (c_X12_hasRoom hs (n := (nw n 3 m 6 d)) (by rw [r_wr_at]; exact hNd) (by rw [ecn1]; exact hsc)) (ci := 12) rfl rfl rfl (hs.1 _ _ _ ⟨rfl, rfl⟩) rfl rfl rfl rfl ⟨Nat.le_refl _, Nat.le_refl _⟩ rfl dX12_call_132 ?_
              refine ca_if_eq (tgt := 155) h dX12_call_135 (by decide) (fun c_135 => ?_) (fun c_135 => ?_)
              ·
                have hpl : ¬ k_place n (nI s) = true := by rw [← epl]; exact fun z => bI_n0.mpr z c_135
                refine ca_aload_nr h dX12_call_155 rfl ?_
                refine ca_iload_n h dX12_call_156 rfl ?_
                refine ca_bipush h dX12_call_157 bk_6 ?_
                refine ca_iconst h dX12_call_159 ik_0 ?_
                refine ca_vv h hG ml_X12_147 (c_X12_put hs hm12 (f := 6) (by decide)) (ci := 12) rfl rfl rfl (hs.1 _ _ _ ⟨rfl, rfl⟩) rfl rfl rfl rfl ⟨Nat.le_refl _, Nat.le_refl _⟩ rfl dX12_call_160 ?_
                refine ca_aload_nr h dX12_call_163 rfl ?_
                refine ca_iconst h dX12_call_164 ik_4 ?_
                refine ca_vv h hG ml_X12_183 (c_X12_count hs (t := 4) (by decide)) (ci := 12) rfl rfl rfl (hs.1 _ _ _ ⟨rfl, rfl⟩) rfl rfl rfl rfl ⟨Nat.le_refl _, Nat.le_refl _⟩ rfl dX12_call_165 ?_
                refine ca_mem (μ'' := r_wr (up μ 16 p) (up (up μ 16 p 16 23 0) (10 + 4) (up μ 16 p 16 23 0 (10 + 4) + 1))) (by simp only [r_wr_put, r_wr_at, r_wr_wr]; rw [up_up, show up (up μ 16 p 16 23 0) (210 + 91 * m + 6) 0 = up μ 16 p 16 23 0 by rw [← h60, ← r_f hN1 hm (f := 6) (by decide), up_id]]) ?_
                refine ca_bipush h dX12_call_168 bk_m5 ?_
                refine ca_ireturn h hR rfl dX12_call_170 ?_
                have esu : k_su n m d (nI s) = (-5, k_cnt n 4) := by
                  have e1 : k_suc n m (nI s) = -1 := (if_neg hfr).trans erc
                  unfold k_su
                  rw [if_pos e1, if_neg hpl]
                refine ⟨by rw [esu], rfl, ?_⟩
                rw [esu]
                exact r_A_wr h6 hJ1 (r_N_tot hN1 (by decide))
              ·
                have hpl : k_place n (nI s) = true := by rw [← epl]; exact bI_n0.mp c_135
                refine ca_aload_nr h dX12_call_138 rfl ?_
                refine ca_iload_n h dX12_call_139 rfl ?_
                refine ca_iconst h dX12_call_140 ik_4 ?_
                refine ca_iconst h dX12_call_141 ik_2 ?_
                refine ca_vv h hG ml_X12_147 (c_X12_put hs hm12 (f := 4) (by decide)) (ci := 12) rfl rfl rfl (hs.1 _ _ _ ⟨rfl, rfl⟩) rfl rfl rfl rfl ⟨Nat.le_refl _, Nat.le_refl _⟩ rfl dX12_call_142 ?_
                refine ca_aload_nr h dX12_call_145 rfl ?_
                refine ca_iload_n h dX12_call_146 rfl ?_
                refine ca_iload_n h dX12_call_147 rfl ?_
                refine ca_iconst h dX12_call_148 ik_1 ?_
                refine ca_vv h hG ml_X12_189 (c_X12_request hs hm12) (ci := 12) rfl rfl rfl (hs.1 _ _ _ ⟨rfl, rfl⟩) rfl rfl rfl rfl ⟨Nat.le_refl _, Nat.le_refl _⟩ rfl dX12_call_149 ?_
                refine ca_mem (μ'' := r_wr (up μ 16 p) (r_rq (up (up (up μ 16 p 16 23 0) (210 + 91 * m + 6) d) (210 + 91 * m + 4) 2) m (nI s) 1 ((up (up μ 16 p 16 23 0) (210 + 91 * m + 6) d) 3))) (by simp only [r_wr_put, r_wr_at, r_wr_wr]; rw [up_n (show (3 : Nat) ≠ 210 + 91 * m + 4 by omega)]) ?_
                refine ca_bipush h dX12_call_152 bk_m3 ?_
                refine ca_ireturn h hR rfl dX12_call_154 ?_
                have esu : k_su n m d (nI s) = (-3, k_wfs (nw n 3 m 6 d) m (nI s) ((nw n 3 m 6 d) 0 0 3)) := by
                  have e1 : k_suc n m (nI s) = -1 := (if_neg hfr).trans erc
                  unfold k_su
                  rw [if_pos e1, if_pos hpl]
                refine ⟨by rw [esu], rfl, ?_⟩
                rw [esu]
                exact r_A_wr h6 hJ1 (r_N_rqW hNd (by rw [emn1]; exact hm) (by rw [nw_at, if_neg (by omega)]; exact h0) (by rw [nw_at, if_pos ⟨rfl, rfl, rfl⟩]; exact hd0) (by rw [ecn1]; exact hsc))
            ·
              have hbb : ∃ b, b < k_cc n ∧ (k_rc n (nI s) (n 3 m 0) (n 3 m 1) (k_cc n)).1 = nI b := by rcases k_rc_inv n (nI s) (n 3 m 0) (n 3 m 1) (k_cc n) with ⟨z, -⟩ | ⟨b, hb, z, -⟩; exact absurd z c_112; exact ⟨b, hb, z⟩
              obtain ⟨b, hb, eb⟩ := hbb
              have hb8 := r_c8 hN hb
              refine ca_aload_nr h dX12_call_115 rfl ?_
              refine ca_iload_n h dX12_call_116 rfl ?_
              refine ca_iload h dX12_call_117 rfl ?_
              rw [eb]
              refine ca_vv h hG ml_X12_176 (c_X12_begin hs hm12) (ci := 12) rfl rfl rfl (hs.1 _ _ _ ⟨rfl, rfl⟩) rfl rfl rfl rfl ⟨Nat.le_refl _, Nat.le_refl _⟩ rfl dX12_call_119 ?_
              refine ca_aload_nr h dX12_call_122 rfl ?_
              refine ca_iconst h dX12_call_123 ik_5 ?_
              refine ca_vv h hG ml_X12_183 (c_X12_count hs (t := 5) (by decide)) (ci := 12) rfl rfl rfl (hs.1 _ _ _ ⟨rfl, rfl⟩) rfl rfl rfl rfl ⟨Nat.le_refl _, Nat.le_refl _⟩ rfl dX12_call_124 ?_
              refine ca_mem (μ'' := r_wr (up μ 16 p) (up (r_beg (up (up μ 16 p 16 23 0) (210 + 91 * m + 6) d) m (nI b)) (10 + 5) (r_beg (up (up μ 16 p 16 23 0) (210 + 91 * m + 6) d) m (nI b) (10 + 5) + 1))) (by simp only [r_wr_put, r_wr_at, r_wr_wr]) ?_
              have hbs : ¬ nI b = nI s := fun z => by
                have := (nI_eq (by omega) (by omega)).mp z
                subst this
                exact hfr (r_rcfree n (nI b) (n 3 m 0) (n 3 m 1) (k_cc n) b eb (by omega))
              have hNb : r_N (k_beg (nw (k_cnt n 5) 3 m 6 d) m (nI b)) (up (r_beg (up (up μ 16 p 16 23 0) (210 + 91 * m + 6) d) m (nI b)) (10 + 5) (r_beg (up (up μ 16 p 16 23 0) (210 + 91 * m + 6) d) m (nI b) (10 + 5) + 1)) := by
                rw [← k_cnt_nw (by decide), ← k_cnt_beg]
                exact r_N_tot (r_N_beg hNd (by rw [emn1]; exact hm) (by rw [ecn1]; exact hb) (by rw [nw_at, if_pos ⟨rfl, rfl, rfl⟩]; exact hd0)) (by decide)
              refine ca_iload h dX12_call_127 rfl ?_
              refine ca_ireturn h hR rfl dX12_call_129 ?_
              have esu : k_su n m d (nI s) = (nI b, k_beg (nw (k_cnt n 5) 3 m 6 d) m (nI b)) := by
                have e1 : k_suc n m (nI s) = nI b := (if_neg hfr).trans eb
                unfold k_su
                rw [e1, if_neg (nI_nm1 (by omega)), if_neg hbs]
              refine ⟨by rw [esu], rfl, ?_⟩
              rw [esu]
              exact r_A_wr h6 hJ1 hNb
          ·
            have hfr : k_free n (nI s) = true := by rw [← efr]; exact bI_n0.mp c_90
            refine ca_aload_nr h dX12_call_93 rfl ?_
            refine ca_iload_n h dX12_call_94 rfl ?_
            refine ca_iload_n h dX12_call_95 rfl ?_
            refine ca_vv h hG ml_X12_176 (c_X12_begin hs hm12) (ci := 12) rfl rfl rfl (hs.1 _ _ _ ⟨rfl, rfl⟩) rfl rfl rfl rfl ⟨Nat.le_refl _, Nat.le_refl _⟩ rfl dX12_call_96 ?_
            refine ca_mem (μ'' := r_wr (up μ 16 p) (r_beg (up (up μ 16 p 16 23 0) (210 + 91 * m + 6) d) m (nI s))) (by simp only [r_wr_put, r_wr_at, r_wr_wr]) ?_
            have hNb : r_N (k_beg (nw n 3 m 6 d) m (nI s)) (r_beg (up (up μ 16 p 16 23 0) (210 + 91 * m + 6) d) m (nI s)) := r_N_beg hNd (by rw [emn1]; exact hm) (by rw [ecn1]; exact hsc) (by rw [nw_at, if_pos ⟨rfl, rfl, rfl⟩]; exact hd0)
            refine ca_iload_n h dX12_call_99 rfl ?_
            refine ca_ireturn h hR rfl dX12_call_100 ?_
            have esu : k_su n m d (nI s) = (nI s, k_beg (nw n 3 m 6 d) m (nI s)) := by
              have e1 : k_suc n m (nI s) = nI s := if_pos hfr
              unfold k_su
              rw [e1, if_neg (nI_nm1 (by omega)), if_pos rfl]
            refine ⟨by rw [esu], rfl, ?_⟩
            rw [esu]
            exact r_A_wr h6 hJ1 hNb
        · exact absurd c_67 (nI_nm1 (by omega))
      · exact absurd h0 c_42
    · exact absurd hd (of_decide_eq_false (bI_0.mp c_27))
  · exact absurd ((r_isM hN _).mpr ⟨m, hm, rfl⟩) (by have z := of_decide_eq_false (bI_0.mp c_10); rw [r_th_0] at z; exact z)
set_option maxHeartbeats 100000 in
theorem c_X12_callU {l : Launch} {E : ch_E} {S : ch_S} {μ : ch_M} (hs : ch_Std E S) {n : ch_N} (hN : r_N n (μ 16 23 0)) {m : Nat} (hm : m < k_mc n) {d : Int32} (hd : ¬ d < 1 ∧ ¬ 500 < d) (h0 : n 3 m 4 = 0) (hcv : k_cov n (n 3 m 0) (n 3 m 1) = -1) : ch_C E l yX12_call cX12_call 5 (some FieldType.int) 6 0 0 S μ [.ref (S.1 16 22 0), .int (nI m), .int d] (ch_F (some (.int (-4))) S (r_th μ 0)) := by
  refine ch_enter rfl rfl ?_
  intro X hl0 h hG hR hnm
  have h : ch_H X E RX12 cX12_call 5 := h
  have hm12 := r_m12 hN hm
  show ch_W X E 5 S μ 0 0 0 [(0, .ref (S.1 16 22 0)), (1, .int (nI m)), (2, .int d)] []
  refine ca_aload_nr h dX12_call_0 rfl ?_
  refine ca_iconst h dX12_call_1 ik_0 ?_
  refine pi_X12_70 h (hs.1 _ _ _ ⟨rfl, rfl⟩) dX12_call_2 ?_
  refine ca_mem (μ'' := r_th μ 0) rfl ?_
  refine ca_aload_nr h dX12_call_5 rfl ?_
  refine ca_iload_n h dX12_call_6 rfl ?_
  refine ca_vi h hG ml_X12_170 (c_X12_isMobile hs) (ci := 12) rfl rfl rfl (hs.1 _ _ _ ⟨rfl, rfl⟩) rfl rfl rfl rfl ⟨Nat.le_refl _, Nat.le_refl _⟩ rfl dX12_call_7 ?_
  refine ca_if_ne (tgt := 19) h dX12_call_10 (by decide) (fun c_10 => ?_) (fun c_10 => ?_)
  ·
    refine ca_iload_n h dX12_call_19 rfl ?_
    refine ca_iconst h dX12_call_20 ik_1 ?_
    refine ca_sipush h dX12_call_21 sk_500 ?_
    refine ca_si h hG ms_X12_73 (c_X12_inRange) rfl rfl rfl rfl ⟨Nat.le_refl _, Nat.le_refl _⟩ rfl dX12_call_24 ?_
    refine ca_if_ne (tgt := 36) h dX12_call_27 (by decide) (fun c_27 => ?_) (fun c_27 => ?_)
    ·
      refine ca_aload_nr h dX12_call_36 rfl ?_
      refine ca_iload_n h dX12_call_37 rfl ?_
      refine ca_iconst h dX12_call_38 ik_4 ?_
      refine ca_vi h hG ml_X12_77 (c_X12_of hs hm12 (by decide)) (ci := 12) rfl rfl rfl (hs.1 _ _ _ ⟨rfl, rfl⟩) rfl rfl rfl rfl ⟨Nat.le_refl _, Nat.le_refl _⟩ rfl dX12_call_39 ?_
      refine ca_top (show _ = n 3 m 4 by rw [r_th_23, r_f hN hm (f := 4) (by decide)]) ?_
      refine ca_if_eq (tgt := 48) h dX12_call_42 (by decide) (fun c_42 => ?_) (fun c_42 => ?_)
      ·
        refine ca_aload_nr h dX12_call_48 rfl ?_
        refine ca_aload_nr h dX12_call_49 rfl ?_
        refine ca_iload_n h dX12_call_50 rfl ?_
        refine ca_iconst h dX12_call_51 ik_0 ?_
        refine ca_vi h hG ml_X12_77 (c_X12_of hs hm12 (by decide)) (ci := 12) rfl rfl rfl (hs.1 _ _ _ ⟨rfl, rfl⟩) rfl rfl rfl rfl ⟨Nat.le_refl _, Nat.le_refl _⟩ rfl dX12_call_52 ?_
        refine ca_aload_nr h dX12_call_55 rfl ?_
        refine ca_iload_n h dX12_call_56 rfl ?_
        refine ca_iconst h dX12_call_57 ik_1 ?_
        refine ca_vi h hG ml_X12_77 (c_X12_of hs hm12 (by decide)) (ci := 12) rfl rfl rfl (hs.1 _ _ _ ⟨rfl, rfl⟩) rfl rfl rfl rfl ⟨Nat.le_refl _, Nat.le_refl _⟩ rfl dX12_call_58 ?_
        rw [r_th_23, r_f hN hm (f := 0) (by decide), r_f hN hm (f := 1) (by decide)]
        refine ca_vi h hG ml_X12_114 (c_X12_covering hs (n := n) (by rw [r_th_23]; exact hN)) (ci := 12) rfl rfl rfl (hs.1 _ _ _ ⟨rfl, rfl⟩) rfl rfl rfl rfl ⟨Nat.le_refl _, Nat.le_refl _⟩ rfl dX12_call_61 ?_
        rw [hcv]
        refine ca_istore_n h dX12_call_64 rfl ?_
        refine ca_iload_n h dX12_call_65 rfl ?_
        refine ca_iconst h dX12_call_66 ik_m1 ?_
        refine ca_icmp_ne (tgt := 73) h dX12_call_67 (by decide) (fun c_67 => ?_) (fun c_67 => ?_)
        ·
          exact absurd rfl c_67
        ·
          refine ca_bipush h dX12_call_70 bk_m4 ?_
          refine ca_ireturn h hR rfl dX12_call_72 ?_
          exact ⟨rfl, rfl, rfl⟩
      · exact absurd h0 c_42
    · exact absurd hd (of_decide_eq_false (bI_0.mp c_27))
  · exact absurd ((r_isM hN _).mpr ⟨m, hm, rfl⟩) (by have z := of_decide_eq_false (bI_0.mp c_10); rw [r_th_0] at z; exact z)
set_option maxHeartbeats 100000 in
theorem c_X12_callB {l : Launch} {E : ch_E} {S : ch_S} {μ : ch_M} (hs : ch_Std E S) {n : ch_N} (hN : r_N n (μ 16 23 0)) {m : Nat} (hm : m < k_mc n) {d : Int32} (hd : ¬ d < 1 ∧ ¬ 500 < d) (h0 : ¬ n 3 m 4 = 0) : ch_C E l yX12_call cX12_call 5 (some FieldType.int) 6 0 0 S μ [.ref (S.1 16 22 0), .int (nI m), .int d] (ch_F (some (.int (-2))) S (r_th μ 0)) := by
  refine ch_enter rfl rfl ?_
  intro X hl0 h hG hR hnm
  have h : ch_H X E RX12 cX12_call 5 := h
  have hm12 := r_m12 hN hm
  show ch_W X E 5 S μ 0 0 0 [(0, .ref (S.1 16 22 0)), (1, .int (nI m)), (2, .int d)] []
  refine ca_aload_nr h dX12_call_0 rfl ?_
  refine ca_iconst h dX12_call_1 ik_0 ?_
  refine pi_X12_70 h (hs.1 _ _ _ ⟨rfl, rfl⟩) dX12_call_2 ?_
  refine ca_mem (μ'' := r_th μ 0) rfl ?_
  refine ca_aload_nr h dX12_call_5 rfl ?_
  refine ca_iload_n h dX12_call_6 rfl ?_
  refine ca_vi h hG ml_X12_170 (c_X12_isMobile hs) (ci := 12) rfl rfl rfl (hs.1 _ _ _ ⟨rfl, rfl⟩) rfl rfl rfl rfl ⟨Nat.le_refl _, Nat.le_refl _⟩ rfl dX12_call_7 ?_
  refine ca_if_ne (tgt := 19) h dX12_call_10 (by decide) (fun c_10 => ?_) (fun c_10 => ?_)
  ·
    refine ca_iload_n h dX12_call_19 rfl ?_
    refine ca_iconst h dX12_call_20 ik_1 ?_
    refine ca_sipush h dX12_call_21 sk_500 ?_
    refine ca_si h hG ms_X12_73 (c_X12_inRange) rfl rfl rfl rfl ⟨Nat.le_refl _, Nat.le_refl _⟩ rfl dX12_call_24 ?_
    refine ca_if_ne (tgt := 36) h dX12_call_27 (by decide) (fun c_27 => ?_) (fun c_27 => ?_)
    ·
      refine ca_aload_nr h dX12_call_36 rfl ?_
      refine ca_iload_n h dX12_call_37 rfl ?_
      refine ca_iconst h dX12_call_38 ik_4 ?_
      refine ca_vi h hG ml_X12_77 (c_X12_of hs hm12 (by decide)) (ci := 12) rfl rfl rfl (hs.1 _ _ _ ⟨rfl, rfl⟩) rfl rfl rfl rfl ⟨Nat.le_refl _, Nat.le_refl _⟩ rfl dX12_call_39 ?_
      refine ca_top (show _ = n 3 m 4 by rw [r_th_23, r_f hN hm (f := 4) (by decide)]) ?_
      refine ca_if_eq (tgt := 48) h dX12_call_42 (by decide) (fun c_42 => ?_) (fun c_42 => ?_)
      ·
        exact absurd c_42 h0
      ·
        refine ca_bipush h dX12_call_45 bk_m2 ?_
        refine ca_ireturn h hR rfl dX12_call_47 ?_
        exact ⟨rfl, rfl, rfl⟩
    · exact absurd hd (of_decide_eq_false (bI_0.mp c_27))
  · exact absurd ((r_isM hN _).mpr ⟨m, hm, rfl⟩) (by have z := of_decide_eq_false (bI_0.mp c_10); rw [r_th_0] at z; exact z)
set_option maxHeartbeats 100000 in
theorem c_X12_callR {l : Launch} {E : ch_E} {S : ch_S} {μ : ch_M} (hs : ch_Std E S) {n : ch_N} (hN : r_N n (μ 16 23 0)) {m : Nat} (hm : m < k_mc n) {d : Int32} (hd : ¬ (¬ d < 1 ∧ ¬ 500 < d)) : ch_C E l yX12_call cX12_call 5 (some FieldType.int) 6 0 0 S μ [.ref (S.1 16 22 0), .int (nI m), .int d] (ch_F (some (.int (0))) S (r_th μ 2)) := by
  refine ch_enter rfl rfl ?_
  intro X hl0 h hG hR hnm
  have h : ch_H X E RX12 cX12_call 5 := h
  show ch_W X E 5 S μ 0 0 0 [(0, .ref (S.1 16 22 0)), (1, .int (nI m)), (2, .int d)] []
  refine ca_aload_nr h dX12_call_0 rfl ?_
  refine ca_iconst h dX12_call_1 ik_0 ?_
  refine pi_X12_70 h (hs.1 _ _ _ ⟨rfl, rfl⟩) dX12_call_2 ?_
  refine ca_mem (μ'' := r_th μ 0) rfl ?_
  refine ca_aload_nr h dX12_call_5 rfl ?_
  refine ca_iload_n h dX12_call_6 rfl ?_
  refine ca_vi h hG ml_X12_170 (c_X12_isMobile hs) (ci := 12) rfl rfl rfl (hs.1 _ _ _ ⟨rfl, rfl⟩) rfl rfl rfl rfl ⟨Nat.le_refl _, Nat.le_refl _⟩ rfl dX12_call_7 ?_
  refine ca_if_ne (tgt := 19) h dX12_call_10 (by decide) (fun c_10 => ?_) (fun c_10 => ?_)
  ·
    refine ca_iload_n h dX12_call_19 rfl ?_
    refine ca_iconst h dX12_call_20 ik_1 ?_
    refine ca_sipush h dX12_call_21 sk_500 ?_
    refine ca_si h hG ms_X12_73 (c_X12_inRange) rfl rfl rfl rfl ⟨Nat.le_refl _, Nat.le_refl _⟩ rfl dX12_call_24 ?_
    refine ca_if_ne (tgt := 36) h dX12_call_27 (by decide) (fun c_27 => ?_) (fun c_27 => ?_)
    ·
      exact absurd (of_decide_eq_true (bI_n0.mp c_27)) hd
    ·
      refine ca_aload_nr h dX12_call_30 rfl ?_
      refine ca_iconst h dX12_call_31 ik_2 ?_
      refine ca_vi h hG ml_X12_108 (c_X12_raise hs) (ci := 12) rfl rfl rfl (hs.1 _ _ _ ⟨rfl, rfl⟩) rfl rfl rfl rfl ⟨Nat.le_refl _, Nat.le_refl _⟩ rfl dX12_call_32 ?_
      refine ca_ireturn h hR rfl dX12_call_35 ?_
      exact ⟨rfl, rfl, by rw [r_th_th]⟩
  · exact absurd ((r_isM hN _).mpr ⟨m, hm, rfl⟩) (by have z := of_decide_eq_false (bI_0.mp c_10); rw [r_th_0] at z; exact z)
set_option maxHeartbeats 100000 in
theorem c_X12_callN {l : Launch} {E : ch_E} {S : ch_S} {μ : ch_M} (hs : ch_Std E S) {n : ch_N} (hN : r_N n (μ 16 23 0)) {x : Int32} (hx : ¬ ∃ m, m < k_mc n ∧ x = nI m) {d : Int32} : ch_C E l yX12_call cX12_call 5 (some FieldType.int) 6 0 0 S μ [.ref (S.1 16 22 0), .int x, .int d] (ch_F (some (.int (0))) S (r_th μ 1)) := by
  refine ch_enter rfl rfl ?_
  intro X hl0 h hG hR hnm
  have h : ch_H X E RX12 cX12_call 5 := h
  show ch_W X E 5 S μ 0 0 0 [(0, .ref (S.1 16 22 0)), (1, .int x), (2, .int d)] []
  refine ca_aload_nr h dX12_call_0 rfl ?_
  refine ca_iconst h dX12_call_1 ik_0 ?_
  refine pi_X12_70 h (hs.1 _ _ _ ⟨rfl, rfl⟩) dX12_call_2 ?_
  refine ca_mem (μ'' := r_th μ 0) rfl ?_
  refine ca_aload_nr h dX12_call_5 rfl ?_
  refine ca_iload_n h dX12_call_6 rfl ?_
  refine ca_vi h hG ml_X12_170 (c_X12_isMobile hs) (ci := 12) rfl rfl rfl (hs.1 _ _ _ ⟨rfl, rfl⟩) rfl rfl rfl rfl ⟨Nat.le_refl _, Nat.le_refl _⟩ rfl dX12_call_7 ?_
  refine ca_if_ne (tgt := 19) h dX12_call_10 (by decide) (fun c_10 => ?_) (fun c_10 => ?_)
  · exact absurd c_10 (fun z => z (bI_0.mpr (decide_eq_false (fun y => hx ((r_isM hN _).mp (by rw [r_th_0] at y; exact y))))))
  ·
    refine ca_aload_nr h dX12_call_13 rfl ?_
    refine ca_iconst h dX12_call_14 ik_1 ?_
    refine ca_vi h hG ml_X12_108 (c_X12_raise hs) (ci := 12) rfl rfl rfl (hs.1 _ _ _ ⟨rfl, rfl⟩) rfl rfl rfl rfl ⟨Nat.le_refl _, Nat.le_refl _⟩ rfl dX12_call_15 ?_
    refine ca_ireturn h hR rfl dX12_call_18 ?_
    exact ⟨rfl, rfl, by rw [r_th_th]⟩
