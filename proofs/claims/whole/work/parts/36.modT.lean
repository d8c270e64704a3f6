/-! THE REFERENCE'S STEPS OF A TICK hold the class's -/
theorem r_M_set {n : ch_N} {w : Nat → Int32} {m f : Nat} {v : Int32} (h : r_M n w m) (hf : f = 0 ∨ f = 1 ∨ f = 2 ∨ f = 3 ∨ f = 6 ∨ f = 7) (h6 : f = 6 → ¬ n 3 m 4 = 0 → 0 < v) (h01 : f = 0 ∨ f = 1 → ¬ v < 0 ∧ ¬ 999 < v) : r_M (nw n 3 m f v) (up w (210 + 91 * m + f) v) m := by
  obtain ⟨a1, a2, a3, a4, a5, a6, a7, a8, a9, a10, a11, a12, a13, a14⟩ := h
  have e3 : ∀ j, j ≠ f → nw n 3 m f v 3 m j = n 3 m j := fun j hj => by rw [nw_at, if_neg (fun z => hj z.2.2)]
  have eF : nw n 3 m f v 3 m f = v := by rw [nw_at, if_pos ⟨rfl, rfl, rfl⟩]
  have ek : ∀ kd, kd ≠ 3 → nw n 3 m f v kd = n kd := fun kd hk => nw_k hk
  have ec : k_cc (nw n 3 m f v) = k_cc n := by unfold k_cc; rw [ek 0 (by decide)]
  have ew : ∀ j, j ≠ f → up w (210 + 91 * m + f) v (210 + 91 * m + j) = w (210 + 91 * m + j) := fun j hj => up_n (by omega)
  unfold r_M
  rw [e3 4 (by omega), e3 5 (by omega), e3 8 (by omega), e3 9 (by omega), ek 2 (by decide), ek 4 (by decide), ek 5 (by decide), ek 6 (by decide), ec]
  refine ⟨fun g hg => ?_, by rw [ew 8 (by omega)]; exact a2, fun ht => ⟨?_, fun c hc => ?_⟩, fun hr => ⟨by rw [ew 10 (by omega)]; exact (a4 hr).1, by rw [ew 9 (by omega)]; exact (a4 hr).2⟩, a5, a6, a7, a8, a9, a10, fun hs => ?_, a12, ?_, a14⟩
  · by_cases e : g = f
    · subst e; rw [up_s, eF]
    · rw [ew g e, e3 g e]; exact a1 g hg
  · by_cases e : 7 = f
    · subst e; rw [up_s, eF]
    · rw [ew 7 e, e3 7 e]; exact (a3 ht).1
  · obtain ⟨b1, b2, b3⟩ := (a3 ht).2 c hc
    exact ⟨by rw [ew _ (by omega)]; exact b1, by rw [ew _ (by omega)]; exact b2, fun k hk => by rw [ew _ (by omega)]; exact b3 k hk⟩
  · by_cases e : 6 = f
    · subst e; rw [eF]; exact h6 rfl hs
    · rw [e3 6 e]; exact a11 hs
  · by_cases e0 : 0 = f
    · subst e0; rw [eF, e3 1 (by decide)]; exact ⟨(h01 (Or.inl rfl)).1, (h01 (Or.inl rfl)).2, a13.2.2.1, a13.2.2.2⟩
    · by_cases e1 : 1 = f
      · subst e1; rw [eF, e3 0 (by decide)]; exact ⟨a13.1, a13.2.1, (h01 (Or.inr rfl)).1, (h01 (Or.inr rfl)).2⟩
      · rw [e3 0 e0, e3 1 e1]; exact a13
theorem r_N_set {n : ch_N} {w : Nat → Int32} {m f : Nat} {v : Int32} (h : r_N n w) (hm : m < k_mc n) (hf : f = 0 ∨ f = 1 ∨ f = 2 ∨ f = 3 ∨ f = 6 ∨ f = 7) (h6 : f = 6 → ¬ n 3 m 4 = 0 → 0 < v) (h01 : f = 0 ∨ f = 1 → ¬ v < 0 ∧ ¬ 999 < v) : r_N (nw n 3 m f v) (up w (210 + 91 * m + f) v) := by
  refine r_N_mob h hm (fun kd h3 _ _ _ => nw_k h3) (fun kd i hi => ?_) (fun j hj => up_n (by omega)) (r_M_set (h.2.2.2.2.1 m hm) hf h6 h01) (nw3_wf h.2.2.2.2.2 _ _ _)
  funext j
  rw [nw_at, if_neg (fun z => hi z.2.1)]
theorem k_idle_set {n : ch_N} {i : Nat} {f : Nat} {v : Int32} (hf : f = 6 ∨ f = 7) : k_idle (nw n 3 i f v) i = k_idle n i := by
  funext a b c
  unfold k_idle k_clr
  simp only [na_at, nw_at]
  by_cases h6 : a = 6 ∧ b = i
  · rw [if_pos h6, if_pos h6]
  · rw [if_neg h6, if_neg h6]
    by_cases h5 : a = 5 ∧ b = i
    · rw [if_pos h5, if_pos h5]
    · rw [if_neg h5, if_neg h5]
      by_cases h3 : a = 3 ∧ b = i
      · obtain ⟨rfl, rfl⟩ := h3
        rcases hf with rfl | rfl
        · by_cases g : c = 6
          · subst g; simp
          · simp [g]
        · by_cases g : c = 7
          · subst g; simp
          · simp [g]
      · have hz : ∀ z : Nat, ¬ (a = 3 ∧ b = i ∧ c = z) := fun z q => h3 ⟨q.1, q.2.1⟩
        simp only [hz, if_false]
theorem r_end_left {w : Nat → Int32} {m : Nat} {v : Int32} : r_end (up w (210 + 91 * m + 6) v) m = r_end w m := by
  funext j
  unfold r_end r_wd up
  by_cases h : j = 210 + 91 * m + 6
  · subst h; simp
  · simp [h]
theorem k_fin_eq (n : ch_N) (i : Nat) : k_fin n i = if 0 < n 3 i 6 - 1 then nw n 3 i 6 (n 3 i 6 - 1) else k_cnt (k_idle n i) 2 := by
  have e : (nw n 3 i 6 (n 3 i 6 - 1)) 3 i 6 = n 3 i 6 - 1 := by rw [nw_at, if_pos ⟨rfl, rfl, rfl⟩]
  unfold k_fin
  dsimp only
  rw [e, k_idle_set (Or.inl rfl)]
def r_X (n : ch_N) (S : ch_S) (μ : ch_M) : Option Value → ch_S → ch_M → Prop := ch_FX none S (fun μ' => ∃ w', μ' = r_wr μ w' ∧ r_N n w')
theorem r_left {x : Int32} (h : 0 < x) : (¬ x - 1 = 0 ↔ 0 < x - 1) := by
  obtain ⟨j, hj, e⟩ := nI_of (x := x) (fun z => Int32.lt_irrefl (Int32.lt_trans h z))
  subst e
  cases j with
  | zero => exact absurd h (by decide)
  | succ j =>
    rw [nI_pred]
    cases j with
    | zero => decide
    | succ j => exact ⟨fun _ => nI_lt (a := 0) (Nat.succ_pos j) (by omega), fun _ => nI_ne0 (Nat.succ_pos j) (by omega)⟩
set_option maxHeartbeats 100000 in
theorem c_X12_finish {l : Launch} {E : ch_E} {S : ch_S} {μ : ch_M} (hs : ch_Std E S) {n : ch_N} (hN : r_N n (μ 16 23 0)) {m : Nat} (hm : m < k_mc n) (ht : n 3 m 4 = 1) : ch_C E l yX12_finish cX12_finish 2 none 4 0 0 S μ [.ref (S.1 16 22 0), .int (nI m)] (r_X (k_fin n m) S μ) := by
  refine ch_enter rfl rfl ?_
  intro X hl0 h hG hR hnm
  have h : ch_H X E RX12 cX12_finish 2 := h
  have hm12 := r_m12 hN hm
  have hl : 0 < n 3 m 6 := (hN.2.2.2.2.1 m hm).2.2.2.2.2.2.2.2.2.2.1 (by rw [ht]; decide)
  show ch_W X E 2 S μ 0 0 0 [(0, .ref (S.1 16 22 0)), (1, .int (nI m))] []
  refine ca_mem (μ'' := r_wr μ (μ 16 23 0)) (r_wr_id μ).symm ?_
  refine ca_aload_nr h dX12_finish_0 rfl ?_
  refine ca_iload_n h dX12_finish_1 rfl ?_
  refine ca_bipush h dX12_finish_2 bk_6 ?_
  refine ca_aload_nr h dX12_finish_4 rfl ?_
  refine ca_iload_n h dX12_finish_5 rfl ?_
  refine ca_bipush h dX12_finish_6 bk_6 ?_
  refine ca_vi h hG ml_X12_77 (c_X12_of hs (f := 6) (by omega) (by decide)) (ci := 12) rfl rfl rfl (hs.1 _ _ _ ⟨rfl, rfl⟩) rfl rfl rfl rfl ⟨Nat.le_refl _, Nat.le_refl _⟩ rfl dX12_finish_8 ?_
  refine ca_iconst h dX12_finish_11 ik_1 ?_
  refine ca_isub h dX12_finish_12 ?_
  refine ca_top (show _ = n 3 m 6 - 1 by rw [r_wr_at, r_f hN hm (f := 6) (by decide)]) ?_
  refine ca_vv h hG ml_X12_147 (c_X12_put hs (f := 6) (by omega) (by decide)) (ci := 12) rfl rfl rfl (hs.1 _ _ _ ⟨rfl, rfl⟩) rfl rfl rfl rfl ⟨Nat.le_refl _, Nat.le_refl _⟩ rfl dX12_finish_13 ?_
  refine ca_mem (μ'' := r_wr μ (up (μ 16 23 0) (210 + 91 * m + 6) (n 3 m 6 - 1))) (by simp only [r_wr_put, r_wr_at, r_wr_wr]) ?_
  refine ca_aload_nr h dX12_finish_16 rfl ?_
  refine ca_iload_n h dX12_finish_17 rfl ?_
  refine ca_bipush h dX12_finish_18 bk_6 ?_
  refine ca_vi h hG ml_X12_77 (c_X12_of hs (f := 6) (by omega) (by decide)) (ci := 12) rfl rfl rfl (hs.1 _ _ _ ⟨rfl, rfl⟩) rfl rfl rfl rfl ⟨Nat.le_refl _, Nat.le_refl _⟩ rfl dX12_finish_20 ?_
  refine ca_top (show _ = n 3 m 6 - 1 by rw [r_wr_at, up_s]) ?_
  refine ca_if_ne (tgt := 36) h dX12_finish_23 (by decide) (fun c_23 => ?_) (fun c_23 => ?_)
  ·
    refine ca_vreturn h hR dX12_finish_36 ?_
    have c9 := (r_left hl).mp c_23
    exact ⟨rfl, rfl, _, rfl, by rw [k_fin_eq, if_pos c9]; exact r_N_set hN hm (by omega) (fun _ _ => c9) (fun z => by omega)⟩
  ·
    refine ca_aload_nr h dX12_finish_26 rfl ?_
    refine ca_iload_n h dX12_finish_27 rfl ?_
    refine ca_vv h hG ml_X12_195 (c_X12_end hs hm12) (ci := 12) rfl rfl rfl (hs.1 _ _ _ ⟨rfl, rfl⟩) rfl rfl rfl rfl ⟨Nat.le_refl _, Nat.le_refl _⟩ rfl dX12_finish_28 ?_
    refine ca_aload_nr h dX12_finish_31 rfl ?_
    refine ca_iconst h dX12_finish_32 ik_2 ?_
    refine ca_vv h hG ml_X12_183 (c_X12_count hs (t := 2) (by decide)) (ci := 12) rfl rfl rfl (hs.1 _ _ _ ⟨rfl, rfl⟩) rfl rfl rfl rfl ⟨Nat.le_refl _, Nat.le_refl _⟩ rfl dX12_finish_33 ?_
    refine ca_vreturn h hR dX12_finish_36 ?_
    have c9 := fun z => (r_left hl).mpr z c_23
    exact ⟨rfl, rfl, _, by simp only [r_wr_put, r_wr_at, r_wr_wr]; rfl, by rw [k_fin_eq, if_neg c9, r_end_left]; exact r_N_tot (r_N_end hN hm) (by decide)⟩
theorem k_dr_eq (n : ch_N) (i : Nat) (v : Int32) (hv : v = if k_avg n i (n 3 i 5) < n 0 0 8 then n 3 i 7 + 1 else 0) : k_dr n i = if v < n 0 0 9 then nw n 3 i 7 v else k_cnt (k_idle n i) 3 := by
  have e : (nw n 3 i 7 v) 3 i 7 = v := by rw [nw_at, if_pos ⟨rfl, rfl, rfl⟩]
  have e2 : (nw n 3 i 7 v) 0 = n 0 := nw_k (by decide)
  unfold k_dr
  dsimp only
  rw [← hv, e, e2, k_idle_set (Or.inr rfl)]
theorem k_idle_8 {n : ch_N} {i : Nat} {v : Int32} : k_idle (nw n 3 i 8 v) i = k_idle n i := by
  funext a b c
  unfold k_idle k_clr
  simp only [na_at, nw_at]
  by_cases h6 : a = 6 ∧ b = i
  · rw [if_pos h6, if_pos h6]
  · rw [if_neg h6, if_neg h6]
    by_cases h5 : a = 5 ∧ b = i
    · rw [if_pos h5, if_pos h5]
    · rw [if_neg h5, if_neg h5]
      by_cases h3 : a = 3 ∧ b = i
      · obtain ⟨rfl, rfl⟩ := h3
        by_cases g : c = 8
        · subst g; simp
        · simp [g]
      · have hz : ∀ z : Nat, ¬ (a = 3 ∧ b = i ∧ c = z) := fun z q => h3 ⟨q.1, q.2.1⟩
        simp only [hz, if_false]
/-- a talking mobile's request withdrawn -/
theorem r_N_wd {n : ch_N} {w : Nat → Int32} {m : Nat} (h : r_N n w) (hm : m < k_mc n) (ht : n 3 m 4 = 1) : r_N (nw n 3 m 8 (-1)) (r_wd w m) := by
  obtain ⟨a1, a2, a3, a4, a5, a6, a7, a8, a9, a10, a11, a12, a13, a14⟩ := h.2.2.2.2.1 m hm
  have e3 : ∀ j, j ≠ 8 → nw n 3 m 8 (-1) 3 m j = n 3 m j := fun j hj => by rw [nw_at, if_neg (fun z => hj z.2.2)]
  have eF : nw n 3 m 8 (-1) 3 m 8 = -1 := by rw [nw_at, if_pos ⟨rfl, rfl, rfl⟩]
  have ek : ∀ kd, kd ≠ 3 → nw n 3 m 8 (-1) kd = n kd := fun kd hk => nw_k hk
  have ec : k_cc (nw n 3 m 8 (-1)) = k_cc n := by unfold k_cc; rw [ek 0 (by decide)]
  have ew : ∀ j, j ≠ 8 → r_wd w m (210 + 91 * m + j) = w (210 + 91 * m + j) := fun j hj => up_n (by omega)
  refine r_N_mob h hm (fun kd h3 _ _ _ => nw_k h3) (fun kd i hi => ?_) (fun j hj => up_n (by omega)) ?_ (nw3_wf h.2.2.2.2.2 _ _ _)
  · funext j
    rw [nw_at, if_neg (fun z => hi z.2.1)]
  · unfold r_M
    rw [e3 4 (by omega), e3 5 (by omega), eF, e3 9 (by omega), ek 2 (by decide), ek 4 (by decide), ek 5 (by decide), ek 6 (by decide), ec]
    refine ⟨fun g hg => by rw [ew g (by omega), e3 g (by omega)]; exact a1 g hg, up_s _ _ _, fun hz => ⟨by rw [ew 7 (by omega), e3 7 (by omega)]; exact (a3 hz).1, fun c hc => ?_⟩, fun z => absurd rfl z, a5, a6, a7, fun _ => rfl, fun z => ?_, Or.inl rfl, fun hz => by rw [e3 6 (by omega)]; exact a11 hz, fun _ c hc z => absurd z.symm (nI_nm1 (by omega)), by rw [e3 0 (by omega), e3 1 (by omega)]; exact a13, a14⟩
    · obtain ⟨b1, b2, b3⟩ := (a3 hz).2 c hc
      exact ⟨by rw [ew _ (by omega)]; exact b1, by rw [ew _ (by omega)]; exact b2, fun k hk => by rw [ew _ (by omega)]; exact b3 k hk⟩
    · rw [ht] at z; exact absurd z (by decide)
theorem cn3 : Int32.toNatClampNeg 3 = 3 := rfl
theorem cn7 : Int32.toNatClampNeg 7 = 7 := rfl
theorem cn8 : Int32.toNatClampNeg 8 = 8 := rfl
theorem cn9 : Int32.toNatClampNeg 9 = 9 := rfl
set_option maxHeartbeats 100000 in
theorem c_X12_checkDrop {l : Launch} {E : ch_E} {S : ch_S} {μ : ch_M} (hs : ch_Std E S) {n : ch_N} (hN : r_N n (μ 16 23 0)) {m : Nat} (hm : m < k_mc n) (ht : n 3 m 4 = 1) (hcs : ∀ s, n 3 m 5 = nI s → s < 8 → 0 < n 5 m s) : ch_C E l yX12_checkDrop cX12_checkDrop 3 none 4 0 0 S μ [.ref (S.1 16 22 0), .int (nI m)] (r_X (k_dr n m) S μ) := by
  refine ch_enter rfl rfl ?_
  intro X hl0 h hG hR hnm
  have h : ch_H X E RX12 cX12_checkDrop 3 := h
  have hm12 := r_m12 hN hm
  obtain ⟨s, hsc, h5⟩ := r_sv hN hm ht
  have hs8 := r_c8 hN hsc
  have hp := hcs s h5 hs8
  obtain ⟨vb, hvb⟩ : ∃ z, z = (if k_avg n m (n 3 m 5) < n 0 0 8 then n 3 m 7 + 1 else 0) := ⟨_, rfl⟩
  show ch_W X E 3 S μ 0 0 0 [(0, .ref (S.1 16 22 0)), (1, .int (nI m))] []
  refine ca_aload_nr h dX12_checkDrop_0 rfl ?_
  refine ca_iload_n h dX12_checkDrop_1 rfl ?_
  refine ca_aload_nr h dX12_checkDrop_2 rfl ?_
  refine ca_iload_n h dX12_checkDrop_3 rfl ?_
  refine ca_iconst h dX12_checkDrop_4 ik_5 ?_
  refine ca_vi h hG ml_X12_77 (c_X12_of hs (f := 5) (by omega) (by decide)) (ci := 12) rfl rfl rfl (hs.1 _ _ _ ⟨rfl, rfl⟩) rfl rfl rfl rfl ⟨Nat.le_refl _, Nat.le_refl _⟩ rfl dX12_checkDrop_5 ?_
  rw [r_f hN hm (f := 5) (by decide), h5]
  refine ca_vi h hG ml_X12_204 (c_X12_averageOf hs hN hm ht hs8 hp) (ci := 12) rfl rfl rfl (hs.1 _ _ _ ⟨rfl, rfl⟩) rfl rfl rfl rfl ⟨Nat.le_refl _, Nat.le_refl _⟩ rfl dX12_checkDrop_8 ?_
  refine ca_aload_nr h dX12_checkDrop_11 rfl ?_
  refine gs_X12_9 h hs ⟨rfl, rfl⟩ dX12_checkDrop_12 ?_
  refine ca_bipush h dX12_checkDrop_15 bk_8 ?_
  refine ca_iald h rfl (hs.1 _ _ _ ⟨rfl, rfl⟩) (vp_in_nI (n := 8) (N := 1302) (by decide) (by decide)) dX12_checkDrop_17 ?_
  refine ca_top (show _ = n 0 0 8 by rw [cn8]; exact hN.1 8 (by decide)) ?_
  refine ca_icmp_ge (tgt := 25) h dX12_checkDrop_18 (by decide) (fun c_18 => ?_) (fun c_18 => ?_)
  ·
    refine ca_iconst h dX12_checkDrop_25 ik_0 ?_
    refine ca_istore_n h dX12_checkDrop_26 rfl ?_
    refine ca_mem (μ'' := r_wr μ (μ 16 23 0)) (r_wr_id μ).symm ?_
    refine ca_aload_nr h dX12_checkDrop_27 rfl ?_
    refine ca_iload_n h dX12_checkDrop_28 rfl ?_
    refine ca_bipush h dX12_checkDrop_29 bk_7 ?_
    refine ca_iload_n h dX12_checkDrop_31 rfl ?_
    refine ca_if_eq (tgt := 47) h dX12_checkDrop_32 (by decide) (fun c_32 => ?_) (fun c_32 => ?_)
    ·
      refine ca_iconst h dX12_checkDrop_47 ik_0 ?_
      refine ca_top (show _ = vb by rw [hvb, h5, if_neg c_18]) ?_
      refine ca_vv h hG ml_X12_147 (c_X12_put hs (f := 7) (by omega) (by decide)) (ci := 12) rfl rfl rfl (hs.1 _ _ _ ⟨rfl, rfl⟩) rfl rfl rfl rfl ⟨Nat.le_refl _, Nat.le_refl _⟩ rfl dX12_checkDrop_48 ?_
      refine ca_mem (μ'' := r_wr μ (up (μ 16 23 0) (210 + 91 * m + 7) vb)) (by simp only [r_wr_put, r_wr_at, r_wr_wr]) ?_
      refine ca_aload_nr h dX12_checkDrop_51 rfl ?_
      refine ca_iload_n h dX12_checkDrop_52 rfl ?_
      refine ca_bipush h dX12_checkDrop_53 bk_7 ?_
      refine ca_vi h hG ml_X12_77 (c_X12_of hs (f := 7) (by omega) (by decide)) (ci := 12) rfl rfl rfl (hs.1 _ _ _ ⟨rfl, rfl⟩) rfl rfl rfl rfl ⟨Nat.le_refl _, Nat.le_refl _⟩ rfl dX12_checkDrop_55 ?_
      refine ca_top (show _ = vb by rw [r_wr_at, up_s]) ?_
      refine ca_aload_nr h dX12_checkDrop_58 rfl ?_
      refine gs_X12_9 h hs ⟨rfl, rfl⟩ dX12_checkDrop_59 ?_
      refine ca_bipush h dX12_checkDrop_62 bk_9 ?_
      refine ca_iald h rfl (hs.1 _ _ _ ⟨rfl, rfl⟩) (vp_in_nI (n := 9) (N := 1302) (by decide) (by decide)) dX12_checkDrop_64 ?_
      refine ca_top (show _ = n 0 0 9 by rw [r_wr_at, cn9, up_n (by omega)]; exact hN.1 9 (by decide)) ?_
      refine ca_icmp_lt (tgt := 78) h dX12_checkDrop_65 (by decide) (fun c_65 => ?_) (fun c_65 => ?_)
      ·
        refine ca_vreturn h hR dX12_checkDrop_78 ?_
        exact ⟨rfl, rfl, _, rfl, by rw [k_dr_eq n m vb hvb, if_pos c_65]; exact r_N_set hN hm (by omega) (fun z => by omega) (fun z => by omega)⟩
      ·
        refine ca_aload_nr h dX12_checkDrop_68 rfl ?_
        refine ca_iload_n h dX12_checkDrop_69 rfl ?_
        refine ca_vv h hG ml_X12_195 (c_X12_end hs hm12) (ci := 12) rfl rfl rfl (hs.1 _ _ _ ⟨rfl, rfl⟩) rfl rfl rfl rfl ⟨Nat.le_refl _, Nat.le_refl _⟩ rfl dX12_checkDrop_70 ?_
        refine ca_aload_nr h dX12_checkDrop_73 rfl ?_
        refine ca_iconst h dX12_checkDrop_74 ik_3 ?_
        refine ca_vv h hG ml_X12_183 (c_X12_count hs (t := 3) (by decide)) (ci := 12) rfl rfl rfl (hs.1 _ _ _ ⟨rfl, rfl⟩) rfl rfl rfl rfl ⟨Nat.le_refl _, Nat.le_refl _⟩ rfl dX12_checkDrop_75 ?_
        refine ca_vreturn h hR dX12_checkDrop_78 ?_
        exact ⟨rfl, rfl, _, by simp only [r_wr_put, r_wr_at, r_wr_wr]; rfl, by rw [k_dr_eq n m vb hvb, if_neg c_65, ← k_idle_set (n := n) (i := m) (v := vb) (Or.inr rfl)]; exact r_N_tot (r_N_end (r_N_set hN hm (by omega) (fun z => by omega) (fun z => by omega)) hm) (by decide)⟩
    · exact absurd rfl c_32
  ·
    refine ca_iconst h dX12_checkDrop_21 ik_1 ?_
    refine ca_goto (tgt := 26) h dX12_checkDrop_22 (by decide) ?_
    refine ca_istore_n h dX12_checkDrop_26 rfl ?_
    refine ca_mem (μ'' := r_wr μ (μ 16 23 0)) (r_wr_id μ).symm ?_
    refine ca_aload_nr h dX12_checkDrop_27 rfl ?_
    refine ca_iload_n h dX12_checkDrop_28 rfl ?_
    refine ca_bipush h dX12_checkDrop_29 bk_7 ?_
    refine ca_iload_n h dX12_checkDrop_31 rfl ?_
    refine ca_if_eq (tgt := 47) h dX12_checkDrop_32 (by decide) (fun c_32 => ?_) (fun c_32 => ?_)
    · exact absurd c_32 (by decide)
    ·
      refine ca_aload_nr h dX12_checkDrop_35 rfl ?_
      refine ca_iload_n h dX12_checkDrop_36 rfl ?_
      refine ca_bipush h dX12_checkDrop_37 bk_7 ?_
      refine ca_vi h hG ml_X12_77 (c_X12_of hs (f := 7) (by omega) (by decide)) (ci := 12) rfl rfl rfl (hs.1 _ _ _ ⟨rfl, rfl⟩) rfl rfl rfl rfl ⟨Nat.le_refl _, Nat.le_refl _⟩ rfl dX12_checkDrop_39 ?_
      refine ca_iconst h dX12_checkDrop_42 ik_1 ?_
      refine ca_iadd h dX12_checkDrop_43 ?_
      refine ca_goto (tgt := 48) h dX12_checkDrop_44 (by decide) ?_
      refine ca_top (show _ = vb by rw [hvb, h5, if_pos c_18, r_wr_at, r_bad hN hm ht]) ?_
      refine ca_vv h hG ml_X12_147 (c_X12_put hs (f := 7) (by omega) (by decide)) (ci := 12) rfl rfl rfl (hs.1 _ _ _ ⟨rfl, rfl⟩) rfl rfl rfl rfl ⟨Nat.le_refl _, Nat.le_refl _⟩ rfl dX12_checkDrop_48 ?_
      refine ca_mem (μ'' := r_wr μ (up (μ 16 23 0) (210 + 91 * m + 7) vb)) (by simp only [r_wr_put, r_wr_at, r_wr_wr]) ?_
      refine ca_aload_nr h dX12_checkDrop_51 rfl ?_
      refine ca_iload_n h dX12_checkDrop_52 rfl ?_
      refine ca_bipush h dX12_checkDrop_53 bk_7 ?_
      refine ca_vi h hG ml_X12_77 (c_X12_of hs (f := 7) (by omega) (by decide)) (ci := 12) rfl rfl rfl (hs.1 _ _ _ ⟨rfl, rfl⟩) rfl rfl rfl rfl ⟨Nat.le_refl _, Nat.le_refl _⟩ rfl dX12_checkDrop_55 ?_
      refine ca_top (show _ = vb by rw [r_wr_at, up_s]) ?_
      refine ca_aload_nr h dX12_checkDrop_58 rfl ?_
      refine gs_X12_9 h hs ⟨rfl, rfl⟩ dX12_checkDrop_59 ?_
      refine ca_bipush h dX12_checkDrop_62 bk_9 ?_
      refine ca_iald h rfl (hs.1 _ _ _ ⟨rfl, rfl⟩) (vp_in_nI (n := 9) (N := 1302) (by decide) (by decide)) dX12_checkDrop_64 ?_
      refine ca_top (show _ = n 0 0 9 by rw [r_wr_at, cn9, up_n (by omega)]; exact hN.1 9 (by decide)) ?_
      refine ca_icmp_lt (tgt := 78) h dX12_checkDrop_65 (by decide) (fun c_65 => ?_) (fun c_65 => ?_)
      ·
        refine ca_vreturn h hR dX12_checkDrop_78 ?_
        exact ⟨rfl, rfl, _, rfl, by rw [k_dr_eq n m vb hvb, if_pos c_65]; exact r_N_set hN hm (by omega) (fun z => by omega) (fun z => by omega)⟩
      ·
        refine ca_aload_nr h dX12_checkDrop_68 rfl ?_
        refine ca_iload_n h dX12_checkDrop_69 rfl ?_
        refine ca_vv h hG ml_X12_195 (c_X12_end hs hm12) (ci := 12) rfl rfl rfl (hs.1 _ _ _ ⟨rfl, rfl⟩) rfl rfl rfl rfl ⟨Nat.le_refl _, Nat.le_refl _⟩ rfl dX12_checkDrop_70 ?_
        refine ca_aload_nr h dX12_checkDrop_73 rfl ?_
        refine ca_iconst h dX12_checkDrop_74 ik_3 ?_
        refine ca_vv h hG ml_X12_183 (c_X12_count hs (t := 3) (by decide)) (ci := 12) rfl rfl rfl (hs.1 _ _ _ ⟨rfl, rfl⟩) rfl rfl rfl rfl ⟨Nat.le_refl _, Nat.le_refl _⟩ rfl dX12_checkDrop_75 ?_
        refine ca_vreturn h hR dX12_checkDrop_78 ?_
        exact ⟨rfl, rfl, _, by simp only [r_wr_put, r_wr_at, r_wr_wr]; rfl, by rw [k_dr_eq n m vb hvb, if_neg c_65, ← k_idle_set (n := n) (i := m) (v := vb) (Or.inr rfl)]; exact r_N_tot (r_N_end (r_N_set hN hm (by omega) (fun z => by omega) (fun z => by omega)) hm) (by decide)⟩
theorem k_ex_eq (n : ch_N) (i : Nat) : k_ex n i = if n 3 i 4 = 2 then k_cnt (k_idle (k_cnt n 7) i) 4 else nw (k_cnt n 7) 3 i 8 (-1) := by
  have e : (nw (k_cnt n 7) 3 i 8 (-1)) 3 i 4 = n 3 i 4 := by rw [nw_at, if_neg (fun z => absurd z.2.2 (by decide))]; unfold k_cnt; rw [nw_k (by decide)]
  unfold k_ex
  dsimp only
  rw [e, k_idle_8]
theorem k_cnt_3 (n : ch_N) (t : Nat) : (k_cnt n t) 3 = n 3 := nw_k (by decide)
set_option maxHeartbeats 100000 in
theorem c_X12_expire {l : Launch} {E : ch_E} {S : ch_S} {μ : ch_M} (hs : ch_Std E S) {n : ch_N} (hN : r_N n (μ 16 23 0)) {m : Nat} (hm : m < k_mc n) : ch_C E l yX12_expire cX12_expire 2 none 4 0 0 S μ [.ref (S.1 16 22 0), .int (nI m)] (r_X (s_ex m n) S μ) := by
  refine ch_enter rfl rfl ?_
  intro X hl0 h hG hR hnm
  have h : ch_H X E RX12 cX12_expire 2 := h
  have hm12 := r_m12 hN hm
  have hMm := hN.2.2.2.2.1 m hm
  show ch_W X E 2 S μ 0 0 0 [(0, .ref (S.1 16 22 0)), (1, .int (nI m))] []
  refine ca_aload_nr h dX12_expire_0 rfl ?_
  refine ca_iload_n h dX12_expire_1 rfl ?_
  refine ca_vi h hG ml_X12_226 (c_X12_hasRequest hs (by omega)) (ci := 12) rfl rfl rfl (hs.1 _ _ _ ⟨rfl, rfl⟩) rfl rfl rfl rfl ⟨Nat.le_refl _, Nat.le_refl _⟩ rfl dX12_expire_2 ?_
  refine ca_if_eq (tgt := 32) h dX12_expire_5 (by decide) (fun c_5 => ?_) (fun c_5 => ?_)
  ·
    refine ca_vreturn h hR dX12_expire_32 ?_
    exact ⟨rfl, rfl, _, (r_wr_id μ).symm, by have c9 := of_decide_eq_false (bI_0.mp c_5); rw [r_8 hN hm] at c9; unfold s_ex; rw [if_pos (Classical.byContradiction c9)]; exact hN⟩
  ·
    have hrq : ¬ n 3 m 8 = -1 := by have c9 := of_decide_eq_true (bI_n0.mp c_5); rw [r_8 hN hm] at c9; exact c9
    refine ca_aload_nr h dX12_expire_8 rfl ?_
    refine ca_iload_n h dX12_expire_9 rfl ?_
    refine ca_bipush h dX12_expire_10 bk_10 ?_
    refine ca_vi h hG ml_X12_77 (c_X12_of hs (f := 10) (by omega) (by decide)) (ci := 12) rfl rfl rfl (hs.1 _ _ _ ⟨rfl, rfl⟩) rfl rfl rfl rfl ⟨Nat.le_refl _, Nat.le_refl _⟩ rfl dX12_expire_12 ?_
    rw [(hMm.2.2.2.1 hrq).1]
    refine ca_aload_nr h dX12_expire_15 rfl ?_
    refine gs_X12_9 h hs ⟨rfl, rfl⟩ dX12_expire_16 ?_
    refine ca_bipush h dX12_expire_19 bk_7 ?_
    refine ca_iald h rfl (hs.1 _ _ _ ⟨rfl, rfl⟩) (vp_in_nI (n := 7) (N := 1302) (by decide) (by decide)) dX12_expire_21 ?_
    refine ca_top (show _ = n 0 0 7 by rw [cn7]; exact hN.1 7 (by decide)) ?_
    refine ca_iadd h dX12_expire_22 ?_
    refine ca_aload_nr h dX12_expire_23 rfl ?_
    refine gs_X12_9 h hs ⟨rfl, rfl⟩ dX12_expire_24 ?_
    refine ca_iconst h dX12_expire_27 ik_3 ?_
    refine ca_iald h rfl (hs.1 _ _ _ ⟨rfl, rfl⟩) (vp_in_nI (n := 3) (N := 1302) (by decide) (by decide)) dX12_expire_28 ?_
    refine ca_top (show _ = n 0 0 3 by rw [cn3]; exact hN.1 3 (by decide)) ?_
    refine ca_icmp_le (tgt := 33) h dX12_expire_29 (by decide) (fun c_29 => ?_) (fun c_29 => ?_)
    ·
      refine ca_mem (μ'' := r_wr μ (μ 16 23 0)) (r_wr_id μ).symm ?_
      refine ca_aload_nr h dX12_expire_33 rfl ?_
      refine ca_bipush h dX12_expire_34 bk_7 ?_
      refine ca_vv h hG ml_X12_183 (c_X12_count hs (t := 7) (by decide)) (ci := 12) rfl rfl rfl (hs.1 _ _ _ ⟨rfl, rfl⟩) rfl rfl rfl rfl ⟨Nat.le_refl _, Nat.le_refl _⟩ rfl dX12_expire_36 ?_
      refine ca_mem (μ'' := r_wr μ (up (μ 16 23 0) (10 + 7) (μ 16 23 0 (10 + 7) + 1))) (by simp only [r_wr_put, r_wr_at, r_wr_wr]) ?_
      have hN1 : r_N (k_cnt n 7) (up (μ 16 23 0) (10 + 7) (μ 16 23 0 (10 + 7) + 1)) := r_N_tot hN (by decide)
      have em : k_mc (k_cnt n 7) = k_mc n := by unfold k_mc; rw [k_cnt_0]
      have hm1 : m < k_mc (k_cnt n 7) := by rw [em]; exact hm
      refine ca_aload_nr h dX12_expire_39 rfl ?_
      refine ca_iload_n h dX12_expire_40 rfl ?_
      refine ca_iconst h dX12_expire_41 ik_4 ?_
      refine ca_vi h hG ml_X12_77 (c_X12_of hs (f := 4) (by omega) (by decide)) (ci := 12) rfl rfl rfl (hs.1 _ _ _ ⟨rfl, rfl⟩) rfl rfl rfl rfl ⟨Nat.le_refl _, Nat.le_refl _⟩ rfl dX12_expire_42 ?_
      refine ca_top (show _ = n 3 m 4 by rw [r_wr_at, r_f hN1 hm1 (f := 4) (by decide), k_cnt_3]) ?_
      refine ca_iconst h dX12_expire_45 ik_2 ?_
      refine ca_icmp_ne (tgt := 62) h dX12_expire_46 (by decide) (fun c_46 => ?_) (fun c_46 => ?_)
      ·
        refine ca_aload_nr h dX12_expire_62 rfl ?_
        refine ca_iload_n h dX12_expire_63 rfl ?_
        refine ca_vv h hG ml_X12_163 (c_X12_withdraw hs hm12) (ci := 12) rfl rfl rfl (hs.1 _ _ _ ⟨rfl, rfl⟩) rfl rfl rfl rfl ⟨Nat.le_refl _, Nat.le_refl _⟩ rfl dX12_expire_64 ?_
        refine ca_vreturn h hR dX12_expire_67 ?_
        have e9 : s_ex m n = k_ex n m := by unfold s_ex; rw [if_neg hrq, if_neg c_29]
        have hst : n 3 m 4 = 1 := by rcases hMm.2.2.2.2.1 with z | z | z; exact absurd (hMm.2.2.2.2.2.2.2.1 z) hrq; exact z; exact absurd z c_46
        exact ⟨rfl, rfl, _, by simp only [r_wr_put, r_wr_at, r_wr_wr]; rfl, by rw [e9, k_ex_eq, if_neg c_46]; exact r_N_wd hN1 hm1 (by rw [k_cnt_3]; exact hst)⟩
      ·
        refine ca_aload_nr h dX12_expire_49 rfl ?_
        refine ca_iload_n h dX12_expire_50 rfl ?_
        refine ca_vv h hG ml_X12_195 (c_X12_end hs hm12) (ci := 12) rfl rfl rfl (hs.1 _ _ _ ⟨rfl, rfl⟩) rfl rfl rfl rfl ⟨Nat.le_refl _, Nat.le_refl _⟩ rfl dX12_expire_51 ?_
        refine ca_aload_nr h dX12_expire_54 rfl ?_
        refine ca_iconst h dX12_expire_55 ik_4 ?_
        refine ca_vv h hG ml_X12_183 (c_X12_count hs (t := 4) (by decide)) (ci := 12) rfl rfl rfl (hs.1 _ _ _ ⟨rfl, rfl⟩) rfl rfl rfl rfl ⟨Nat.le_refl _, Nat.le_refl _⟩ rfl dX12_expire_56 ?_
        refine ca_goto (tgt := 67) h dX12_expire_59 (by decide) ?_
        refine ca_vreturn h hR dX12_expire_67 ?_
        have e9 : s_ex m n = k_ex n m := by unfold s_ex; rw [if_neg hrq, if_neg c_29]
        exact ⟨rfl, rfl, _, by simp only [r_wr_put, r_wr_at, r_wr_wr]; rfl, by rw [e9, k_ex_eq, if_pos c_46]; exact r_N_tot (r_N_end hN1 hm1) (by decide)⟩
    ·
      refine ca_vreturn h hR dX12_expire_32 ?_
      exact ⟨rfl, rfl, _, (r_wr_id μ).symm, by unfold s_ex; rw [if_neg hrq, if_pos c_29]; exact hN⟩
