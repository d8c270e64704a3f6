/-! THE REFERENCE'S READING: a number; the start and the end of a text -/
theorem r_chk_c (q : ch_N) (b : Bool) (c : Int32) : r_chk q (bI b) c = if b = true then q else t_fail q c := by
  unfold r_chk
  cases b
  · rw [if_pos (show bI false = 0 from rfl), if_neg (by decide)]
  · rw [if_neg (show ¬ bI true = 0 by decide), if_pos rfl]
theorem t_fail_1 (q : ch_N) (c : Int32) : t_fail q c = q ∨ ((t_fail q c) 12 0 1 = c ∧ q 12 0 1 = 0) := by
  unfold t_fail
  split
  · rename_i h
    exact Or.inr ⟨by rw [nw_at, if_pos ⟨rfl, rfl, rfl⟩], h⟩
  · exact Or.inl rfl
theorem t_fail_f {q : ch_N} (c : Int32) (h : ¬ q 12 0 1 = 0) : t_fail q c = q := by unfold t_fail; rw [if_neg h]
def r_q1 (q : ch_N) : ch_N := if q 12 0 7 = 2 then q else t_fail q 1
def r_q2 (q : ch_N) (lo hi : Int32) : ch_N := if ¬ (r_q1 q) 12 0 1 = 0 then r_q1 q else if t_num (r_q1 q) (t_n (r_q1 q) - t_s (r_q1 q)) < lo ∨ hi < t_num (r_q1 q) (t_n (r_q1 q) - t_s (r_q1 q)) then t_fail (r_q1 q) 2 else r_q1 q
theorem t_take_2 (q : ch_N) (lo hi : Int32) : (t_take q lo hi).2 = t_adv (r_q2 q lo hi) := by
  show t_adv (t_sn (r_q1 q) lo hi).2 = _
  unfold t_sn r_q2
  split
  · rfl
  · split <;> rfl
theorem t_take_1 (q : ch_N) (lo hi : Int32) : (t_take q lo hi).1 = if (r_q2 q lo hi) 12 0 1 = 0 then t_num (r_q1 q) (t_n (r_q1 q) - t_s (r_q1 q)) else lo := by
  show (t_sn (r_q1 q) lo hi).1 = _
  unfold t_sn r_q2
  by_cases h : ¬ (r_q1 q) 12 0 1 = 0
  · rw [if_pos h, if_pos h, if_neg h]
  · rw [if_neg h, if_neg h]
    by_cases g : t_num (r_q1 q) (t_n (r_q1 q) - t_s (r_q1 q)) < lo ∨ hi < t_num (r_q1 q) (t_n (r_q1 q) - t_s (r_q1 q))
    · rw [if_pos g, if_pos g, if_neg (t_fail_ne (by decide))]
    · rw [if_neg g, if_neg g, if_pos (Classical.not_not.mp h)]
theorem r_q1_k {q : ch_N} (h : (r_q1 q) 12 0 1 = 0) : q 12 0 7 = 2 ∧ r_q1 q = q := by
  unfold r_q1 at *
  by_cases g : q 12 0 7 = 2
  · rw [if_pos g]; exact ⟨g, rfl⟩
  · rw [if_neg g] at h; exact absurd h (t_fail_ne (by decide))
theorem r_tok2 {q p : ch_N} (h : r_X1 q p) : r_tok (q 12 0 7) = 2 ↔ q 12 0 7 = 2 := by
  rcases t_kd4 (t_at (q 13 0) (t_e q) (t_s q)) with z | z | z | z | z <;> (have z2 : q 12 0 7 = _ := h.2.2.2.2.2.1.trans z) <;> rw [z2] <;> decide
theorem r_q1_c (q p : ch_N) (hX : r_X1 q p) : r_chk q (if ¬ q 12 0 1 = 0 then 1 else if r_tok (q 12 0 7) = 2 then 1 else 0) 1 = r_q1 q := by
  unfold r_q1
  by_cases h : q 12 0 1 = 0
  · rw [if_neg (fun z => z h)]
    by_cases g : q 12 0 7 = 2
    · rw [if_pos ((r_tok2 hX).mpr g), if_pos g]; rfl
    · rw [if_neg (fun z => g ((r_tok2 hX).mp z)), if_neg g]; rfl
  · rw [if_pos h, show r_chk q 1 1 = q from rfl, t_fail_f 1 h]; split <;> rfl
set_option maxHeartbeats 100000 in
theorem c_X12_number {l : Launch} {E : ch_E} {S : ch_S} {μ : ch_M} (hs : ch_Std E S) {q : ch_N} (hX : r_X1 q (μ 16)) {lo hi : Int32} (hh : hi < 100000) : ch_C E l yX12_number cX12_number 4 (some FieldType.int) 5 0 0 S μ [.ref (S.1 16 22 0), .int lo, .int hi] (r_V (some (.int (t_take q lo hi).1)) (t_take q lo hi).2 S μ) := by
  refine ch_enter rfl rfl ?_
  intro X hl0 h hG hR hnm
  have h : ch_H X E RX12 cX12_number 4 := h
  obtain ⟨⟨x1, x2, x3, x4⟩, x5, x6, x7, x8, x9, x10, x11⟩ := id hX
  show ch_W X E 4 S μ 0 0 0 [(0, .ref (S.1 16 22 0)), (1, .int lo), (2, .int hi)] []
  refine ca_aload_nr h dX12_number_0 rfl ?_
  refine ca_aload_nr h dX12_number_1 rfl ?_
  refine gi_X12_301 h (hs.1 _ _ _ ⟨rfl, rfl⟩) dX12_number_2 ?_
  rw [x3]
  refine ca_if_ne (tgt := 16) h dX12_number_5 (by decide) (fun c_5 => ?_) (fun c_5 => ?_)
  ·
    refine ca_iconst h dX12_number_16 ik_1 ?_
    refine ca_goto (tgt := 21) h dX12_number_17 (by decide) ?_
    have e21 : r_chk q 1 1 = r_q1 q := by have := r_q1_c q _ hX; rw [if_pos c_5] at this; exact this
    refine ca_iconst h dX12_number_21 ik_1 ?_
    refine ca_vXv h hG ml_X12_328 (c_X12_check hs hX) (ci := 12) rfl rfl rfl (hs.1 _ _ _ ⟨rfl, rfl⟩) rfl rfl rfl rfl ⟨Nat.le_refl _, Nat.le_refl _⟩ rfl dX12_number_22 ?_
    intro μ9 hμ9
    obtain ⟨p, rfl, hX9, hf⟩ := hμ9
    rw [e21] at hX9
    obtain ⟨q1, hq1⟩ : ∃ z, z = r_q1 q := ⟨_, rfl⟩
    rw [← hq1] at hX9
    refine ca_aload_nr h dX12_number_25 rfl ?_
    refine ca_vi h hG ml_X12_339 (c_X12_value hs (q := q1) (by rw [up_s]; exact hX9)) (ci := 12) rfl rfl rfl (hs.1 _ _ _ ⟨rfl, rfl⟩) rfl rfl rfl rfl ⟨Nat.le_refl _, Nat.le_refl _⟩ rfl dX12_number_26 ?_
    refine ca_istore_n h dX12_number_29 rfl ?_
    refine ca_aload_nr h dX12_number_30 rfl ?_
    refine ca_aload_nr h dX12_number_31 rfl ?_
    refine gi_X12_301 h (hs.1 _ _ _ ⟨rfl, rfl⟩) dX12_number_32 ?_
    refine ca_top (show _ = q1 12 0 1 by rw [up_s]; exact hX9.1.2.2.1) ?_
    refine ca_if_ne (tgt := 47) h dX12_number_35 (by decide) (fun c_35 => ?_) (fun c_35 => ?_)
    ·
      refine ca_iconst h dX12_number_47 ik_1 ?_
      refine ca_goto (tgt := 52) h dX12_number_48 (by decide) ?_
      have e52 : r_chk q1 1 2 = r_q2 q lo hi := by
        rw [show r_chk q1 1 2 = q1 from rfl]
        unfold r_q2
        rw [← hq1]
        rw [if_pos c_35]
      refine ca_iconst h dX12_number_52 ik_2 ?_
      refine ca_vXv h hG ml_X12_328 (c_X12_check hs (q := q1) (by rw [up_s]; exact hX9)) (ci := 12) rfl rfl rfl (hs.1 _ _ _ ⟨rfl, rfl⟩) rfl rfl rfl rfl ⟨Nat.le_refl _, Nat.le_refl _⟩ rfl dX12_number_53 ?_
      intro μ9 hμ9
      obtain ⟨p2, rfl, hX8, hf2⟩ := hμ9
      rw [e52] at hX8
      rw [up_s] at hf2
      refine ca_aload_nr h dX12_number_56 rfl ?_
      refine ca_vXv h hG ml_X12_332 (c_X12_advance hs (q := r_q2 q lo hi) (by rw [up_s]; exact hX8)) (ci := 12) rfl rfl rfl (hs.1 _ _ _ ⟨rfl, rfl⟩) rfl rfl rfl rfl ⟨Nat.le_refl _, Nat.le_refl _⟩ rfl dX12_number_57 ?_
      intro μ9 hμ9
      obtain ⟨p3, rfl, hX7, hf3⟩ := hμ9
      rw [up_s] at hf3
      refine ca_aload_nr h dX12_number_60 rfl ?_
      refine gi_X12_301 h (hs.1 _ _ _ ⟨rfl, rfl⟩) dX12_number_61 ?_
      refine ca_top (show _ = (t_adv (r_q2 q lo hi)) 12 0 1 by rw [up_s]; exact hX7.1.2.2.1) ?_
      refine ca_if_ne (tgt := 71) h dX12_number_64 (by decide) (fun c_64 => ?_) (fun c_64 => ?_)
      ·
        refine ca_iload_n h dX12_number_71 rfl ?_
        refine ca_ireturn h hR rfl dX12_number_72 ?_
        have ea : (t_take q lo hi).1 = lo := by
          rw [t_take_1]
          rw [if_neg (by rw [← t_adv_1 (r_q2 q lo hi)]; exact fun z => c_64 z)]
        exact ⟨by rw [ea], rfl, p3, by rw [up_up, up_up], by rw [t_take_2]; exact hX7, r_tf_tr hf (r_tf_tr hf2 hf3)⟩
      ·
        refine ca_iload_n h dX12_number_67 rfl ?_
        refine ca_goto (tgt := 72) h dX12_number_68 (by decide) ?_
        refine ca_ireturn h hR rfl dX12_number_72 ?_
        have ea : (t_take q lo hi).1 = (if q1 12 0 7 = 2 then r_num q1 (t_n q1 - t_s q1) else 0) := by
          rw [t_take_1]
          rw [if_pos (by rw [← t_adv_1 (r_q2 q lo hi)]; exact c_64), ← hq1]
          have h0 : (r_q2 q lo hi) 12 0 1 = 0 := by rw [← t_adv_1 (r_q2 q lo hi)]; exact c_64
          have h1 : q1 12 0 1 = 0 := by
            refine Classical.byContradiction fun z => ?_
            unfold r_q2 at h0
            rw [← hq1, if_pos z] at h0
            exact z h0
          obtain ⟨g1, g2⟩ := r_q1_k (q := q) (by rw [← hq1]; exact h1)
          have hk2 : q1 12 0 7 = 2 := by rw [hq1, g2]; exact g1
          have hin := r_num_in hX9 hk2 (lo := lo) hh
          rw [if_pos hk2]
          refine (hin.2 ?_).symm
          refine Classical.byContradiction fun z => ?_
          have y := hin.1.mpr z
          unfold r_q2 at h0
          rw [← hq1, if_neg (fun w => w h1), if_pos y] at h0
          exact absurd h0 (t_fail_ne (by decide))
        exact ⟨by rw [ea], rfl, p3, by rw [up_up, up_up], by rw [t_take_2]; exact hX7, r_tf_tr hf (r_tf_tr hf2 hf3)⟩
    ·
      refine ca_iload_n h dX12_number_38 rfl ?_
      refine ca_iload_n h dX12_number_39 rfl ?_
      refine ca_iload_n h dX12_number_40 rfl ?_
      refine ca_si h hG ms_X12_73 (c_X12_inRange) rfl rfl rfl rfl ⟨Nat.le_refl _, Nat.le_refl _⟩ rfl dX12_number_41 ?_
      refine ca_if_eq (tgt := 51) h dX12_number_44 (by decide) (fun c_44 => ?_) (fun c_44 => ?_)
      ·
        refine ca_iconst h dX12_number_51 ik_0 ?_
        have e52 : r_chk q1 0 2 = r_q2 q lo hi := by
          rw [show r_chk q1 0 2 = t_fail q1 2 from rfl]
          unfold r_q2
          rw [← hq1]
          obtain ⟨g1, g2⟩ := r_q1_k (q := q) (by rw [← hq1]; exact c_35)
          have hk2 : q1 12 0 7 = 2 := by rw [hq1, g2]; exact g1
          have hin := r_num_in hX9 hk2 (lo := lo) hh
          rw [if_neg (fun z => z c_35)]
          have c9 := of_decide_eq_false (bI_0.mp c_44)
          rw [if_pos hk2] at c9
          rw [if_pos (hin.1.mpr c9)]
        refine ca_iconst h dX12_number_52 ik_2 ?_
        refine ca_vXv h hG ml_X12_328 (c_X12_check hs (q := q1) (by rw [up_s]; exact hX9)) (ci := 12) rfl rfl rfl (hs.1 _ _ _ ⟨rfl, rfl⟩) rfl rfl rfl rfl ⟨Nat.le_refl _, Nat.le_refl _⟩ rfl dX12_number_53 ?_
        intro μ9 hμ9
        obtain ⟨p2, rfl, hX8, hf2⟩ := hμ9
        rw [e52] at hX8
        rw [up_s] at hf2
        refine ca_aload_nr h dX12_number_56 rfl ?_
        refine ca_vXv h hG ml_X12_332 (c_X12_advance hs (q := r_q2 q lo hi) (by rw [up_s]; exact hX8)) (ci := 12) rfl rfl rfl (hs.1 _ _ _ ⟨rfl, rfl⟩) rfl rfl rfl rfl ⟨Nat.le_refl _, Nat.le_refl _⟩ rfl dX12_number_57 ?_
        intro μ9 hμ9
        obtain ⟨p3, rfl, hX7, hf3⟩ := hμ9
        rw [up_s] at hf3
        refine ca_aload_nr h dX12_number_60 rfl ?_
        refine gi_X12_301 h (hs.1 _ _ _ ⟨rfl, rfl⟩) dX12_number_61 ?_
        refine ca_top (show _ = (t_adv (r_q2 q lo hi)) 12 0 1 by rw [up_s]; exact hX7.1.2.2.1) ?_
        refine ca_if_ne (tgt := 71) h dX12_number_64 (by decide) (fun c_64 => ?_) (fun c_64 => ?_)
        ·
          refine ca_iload_n h dX12_number_71 rfl ?_
          refine ca_ireturn h hR rfl dX12_number_72 ?_
          have ea : (t_take q lo hi).1 = lo := by
            rw [t_take_1]
            rw [if_neg (by rw [← t_adv_1 (r_q2 q lo hi)]; exact fun z => c_64 z)]
          exact ⟨by rw [ea], rfl, p3, by rw [up_up, up_up], by rw [t_take_2]; exact hX7, r_tf_tr hf (r_tf_tr hf2 hf3)⟩
        ·
          refine ca_iload_n h dX12_number_67 rfl ?_
          refine ca_goto (tgt := 72) h dX12_number_68 (by decide) ?_
          refine ca_ireturn h hR rfl dX12_number_72 ?_
          have ea : (t_take q lo hi).1 = (if q1 12 0 7 = 2 then r_num q1 (t_n q1 - t_s q1) else 0) := by
            rw [t_take_1]
            rw [if_pos (by rw [← t_adv_1 (r_q2 q lo hi)]; exact c_64), ← hq1]
            have h0 : (r_q2 q lo hi) 12 0 1 = 0 := by rw [← t_adv_1 (r_q2 q lo hi)]; exact c_64
            have h1 : q1 12 0 1 = 0 := by
              refine Classical.byContradiction fun z => ?_
              unfold r_q2 at h0
              rw [← hq1, if_pos z] at h0
              exact z h0
            obtain ⟨g1, g2⟩ := r_q1_k (q := q) (by rw [← hq1]; exact h1)
            have hk2 : q1 12 0 7 = 2 := by rw [hq1, g2]; exact g1
            have hin := r_num_in hX9 hk2 (lo := lo) hh
            rw [if_pos hk2]
            refine (hin.2 ?_).symm
            refine Classical.byContradiction fun z => ?_
            have y := hin.1.mpr z
            unfold r_q2 at h0
            rw [← hq1, if_neg (fun w => w h1), if_pos y] at h0
            exact absurd h0 (t_fail_ne (by decide))
          exact ⟨by rw [ea], rfl, p3, by rw [up_up, up_up], by rw [t_take_2]; exact hX7, r_tf_tr hf (r_tf_tr hf2 hf3)⟩
      ·
        refine ca_iconst h dX12_number_47 ik_1 ?_
        refine ca_goto (tgt := 52) h dX12_number_48 (by decide) ?_
        have e52 : r_chk q1 1 2 = r_q2 q lo hi := by
          rw [show r_chk q1 1 2 = q1 from rfl]
          unfold r_q2
          rw [← hq1]
          obtain ⟨g1, g2⟩ := r_q1_k (q := q) (by rw [← hq1]; exact c_35)
          have hk2 : q1 12 0 7 = 2 := by rw [hq1, g2]; exact g1
          have hin := r_num_in hX9 hk2 (lo := lo) hh
          rw [if_neg (fun z => z c_35)]
          have c9 := of_decide_eq_true (bI_n0.mp c_44)
          rw [if_pos hk2] at c9
          rw [if_neg (fun z => hin.1.mp z c9)]
        refine ca_iconst h dX12_number_52 ik_2 ?_
        refine ca_vXv h hG ml_X12_328 (c_X12_check hs (q := q1) (by rw [up_s]; exact hX9)) (ci := 12) rfl rfl rfl (hs.1 _ _ _ ⟨rfl, rfl⟩) rfl rfl rfl rfl ⟨Nat.le_refl _, Nat.le_refl _⟩ rfl dX12_number_53 ?_
        intro μ9 hμ9
        obtain ⟨p2, rfl, hX8, hf2⟩ := hμ9
        rw [e52] at hX8
        rw [up_s] at hf2
        refine ca_aload_nr h dX12_number_56 rfl ?_
        refine ca_vXv h hG ml_X12_332 (c_X12_advance hs (q := r_q2 q lo hi) (by rw [up_s]; exact hX8)) (ci := 12) rfl rfl rfl (hs.1 _ _ _ ⟨rfl, rfl⟩) rfl rfl rfl rfl ⟨Nat.le_refl _, Nat.le_refl _⟩ rfl dX12_number_57 ?_
        intro μ9 hμ9
        obtain ⟨p3, rfl, hX7, hf3⟩ := hμ9
        rw [up_s] at hf3
        refine ca_aload_nr h dX12_number_60 rfl ?_
        refine gi_X12_301 h (hs.1 _ _ _ ⟨rfl, rfl⟩) dX12_number_61 ?_
        refine ca_top (show _ = (t_adv (r_q2 q lo hi)) 12 0 1 by rw [up_s]; exact hX7.1.2.2.1) ?_
        refine ca_if_ne (tgt := 71) h dX12_number_64 (by decide) (fun c_64 => ?_) (fun c_64 => ?_)
        ·
          refine ca_iload_n h dX12_number_71 rfl ?_
          refine ca_ireturn h hR rfl dX12_number_72 ?_
          have ea : (t_take q lo hi).1 = lo := by
            rw [t_take_1]
            rw [if_neg (by rw [← t_adv_1 (r_q2 q lo hi)]; exact fun z => c_64 z)]
          exact ⟨by rw [ea], rfl, p3, by rw [up_up, up_up], by rw [t_take_2]; exact hX7, r_tf_tr hf (r_tf_tr hf2 hf3)⟩
        ·
          refine ca_iload_n h dX12_number_67 rfl ?_
          refine ca_goto (tgt := 72) h dX12_number_68 (by decide) ?_
          refine ca_ireturn h hR rfl dX12_number_72 ?_
          have ea : (t_take q lo hi).1 = (if q1 12 0 7 = 2 then r_num q1 (t_n q1 - t_s q1) else 0) := by
            rw [t_take_1]
            rw [if_pos (by rw [← t_adv_1 (r_q2 q lo hi)]; exact c_64), ← hq1]
            have h0 : (r_q2 q lo hi) 12 0 1 = 0 := by rw [← t_adv_1 (r_q2 q lo hi)]; exact c_64
            have h1 : q1 12 0 1 = 0 := by
              refine Classical.byContradiction fun z => ?_
              unfold r_q2 at h0
              rw [← hq1, if_pos z] at h0
              exact z h0
            obtain ⟨g1, g2⟩ := r_q1_k (q := q) (by rw [← hq1]; exact h1)
            have hk2 : q1 12 0 7 = 2 := by rw [hq1, g2]; exact g1
            have hin := r_num_in hX9 hk2 (lo := lo) hh
            rw [if_pos hk2]
            refine (hin.2 ?_).symm
            refine Classical.byContradiction fun z => ?_
            have y := hin.1.mpr z
            unfold r_q2 at h0
            rw [← hq1, if_neg (fun w => w h1), if_pos y] at h0
            exact absurd h0 (t_fail_ne (by decide))
          exact ⟨by rw [ea], rfl, p3, by rw [up_up, up_up], by rw [t_take_2]; exact hX7, r_tf_tr hf (r_tf_tr hf2 hf3)⟩
  ·
    refine ca_aload_nr h dX12_number_8 rfl ?_
    refine gi_X12_292 h (hs.1 _ _ _ ⟨rfl, rfl⟩) dX12_number_9 ?_
    refine ca_top (show _ = r_tok (q 12 0 7) from x7) ?_
    refine ca_iconst h dX12_number_12 ik_2 ?_
    refine ca_icmp_ne (tgt := 20) h dX12_number_13 (by decide) (fun c_13 => ?_) (fun c_13 => ?_)
    ·
      refine ca_iconst h dX12_number_20 ik_0 ?_
      have e21 : r_chk q 0 1 = r_q1 q := by have := r_q1_c q _ hX; rw [if_neg (fun z => z c_5), if_neg c_13] at this; exact this
      refine ca_iconst h dX12_number_21 ik_1 ?_
      refine ca_vXv h hG ml_X12_328 (c_X12_check hs hX) (ci := 12) rfl rfl rfl (hs.1 _ _ _ ⟨rfl, rfl⟩) rfl rfl rfl rfl ⟨Nat.le_refl _, Nat.le_refl _⟩ rfl dX12_number_22 ?_
      intro μ9 hμ9
      obtain ⟨p, rfl, hX9, hf⟩ := hμ9
      rw [e21] at hX9
      obtain ⟨q1, hq1⟩ : ∃ z, z = r_q1 q := ⟨_, rfl⟩
      rw [← hq1] at hX9
      refine ca_aload_nr h dX12_number_25 rfl ?_
      refine ca_vi h hG ml_X12_339 (c_X12_value hs (q := q1) (by rw [up_s]; exact hX9)) (ci := 12) rfl rfl rfl (hs.1 _ _ _ ⟨rfl, rfl⟩) rfl rfl rfl rfl ⟨Nat.le_refl _, Nat.le_refl _⟩ rfl dX12_number_26 ?_
      refine ca_istore_n h dX12_number_29 rfl ?_
      refine ca_aload_nr h dX12_number_30 rfl ?_
      refine ca_aload_nr h dX12_number_31 rfl ?_
      refine gi_X12_301 h (hs.1 _ _ _ ⟨rfl, rfl⟩) dX12_number_32 ?_
      refine ca_top (show _ = q1 12 0 1 by rw [up_s]; exact hX9.1.2.2.1) ?_
      refine ca_if_ne (tgt := 47) h dX12_number_35 (by decide) (fun c_35 => ?_) (fun c_35 => ?_)
      ·
        refine ca_iconst h dX12_number_47 ik_1 ?_
        refine ca_goto (tgt := 52) h dX12_number_48 (by decide) ?_
        have e52 : r_chk q1 1 2 = r_q2 q lo hi := by
          rw [show r_chk q1 1 2 = q1 from rfl]
          unfold r_q2
          rw [← hq1]
          rw [if_pos c_35]
        refine ca_iconst h dX12_number_52 ik_2 ?_
        refine ca_vXv h hG ml_X12_328 (c_X12_check hs (q := q1) (by rw [up_s]; exact hX9)) (ci := 12) rfl rfl rfl (hs.1 _ _ _ ⟨rfl, rfl⟩) rfl rfl rfl rfl ⟨Nat.le_refl _, Nat.le_refl _⟩ rfl dX12_number_53 ?_
        intro μ9 hμ9
        obtain ⟨p2, rfl, hX8, hf2⟩ := hμ9
        rw [e52] at hX8
        rw [up_s] at hf2
        refine ca_aload_nr h dX12_number_56 rfl ?_
        refine ca_vXv h hG ml_X12_332 (c_X12_advance hs (q := r_q2 q lo hi) (by rw [up_s]; exact hX8)) (ci := 12) rfl rfl rfl (hs.1 _ _ _ ⟨rfl, rfl⟩) rfl rfl rfl rfl ⟨Nat.le_refl _, Nat.le_refl _⟩ rfl dX12_number_57 ?_
        intro μ9 hμ9
        obtain ⟨p3, rfl, hX7, hf3⟩ := hμ9
        rw [up_s] at hf3
        refine ca_aload_nr h dX12_number_60 rfl ?_
        refine gi_X12_301 h (hs.1 _ _ _ ⟨rfl, rfl⟩) dX12_number_61 ?_
        refine ca_top (show _ = (t_adv (r_q2 q lo hi)) 12 0 1 by rw [up_s]; exact hX7.1.2.2.1) ?_
        refine ca_if_ne (tgt := 71) h dX12_number_64 (by decide) (fun c_64 => ?_) (fun c_64 => ?_)
        ·
          refine ca_iload_n h dX12_number_71 rfl ?_
          refine ca_ireturn h hR rfl dX12_number_72 ?_
          have ea : (t_take q lo hi).1 = lo := by
            rw [t_take_1]
            rw [if_neg (by rw [← t_adv_1 (r_q2 q lo hi)]; exact fun z => c_64 z)]
          exact ⟨by rw [ea], rfl, p3, by rw [up_up, up_up], by rw [t_take_2]; exact hX7, r_tf_tr hf (r_tf_tr hf2 hf3)⟩
        ·
          refine ca_iload_n h dX12_number_67 rfl ?_
          refine ca_goto (tgt := 72) h dX12_number_68 (by decide) ?_
          refine ca_ireturn h hR rfl dX12_number_72 ?_
          have ea : (t_take q lo hi).1 = (if q1 12 0 7 = 2 then r_num q1 (t_n q1 - t_s q1) else 0) := by
            rw [t_take_1]
            rw [if_pos (by rw [← t_adv_1 (r_q2 q lo hi)]; exact c_64), ← hq1]
            have h0 : (r_q2 q lo hi) 12 0 1 = 0 := by rw [← t_adv_1 (r_q2 q lo hi)]; exact c_64
            have h1 : q1 12 0 1 = 0 := by
              refine Classical.byContradiction fun z => ?_
              unfold r_q2 at h0
              rw [← hq1, if_pos z] at h0
              exact z h0
            obtain ⟨g1, g2⟩ := r_q1_k (q := q) (by rw [← hq1]; exact h1)
            have hk2 : q1 12 0 7 = 2 := by rw [hq1, g2]; exact g1
            have hin := r_num_in hX9 hk2 (lo := lo) hh
            rw [if_pos hk2]
            refine (hin.2 ?_).symm
            refine Classical.byContradiction fun z => ?_
            have y := hin.1.mpr z
            unfold r_q2 at h0
            rw [← hq1, if_neg (fun w => w h1), if_pos y] at h0
            exact absurd h0 (t_fail_ne (by decide))
          exact ⟨by rw [ea], rfl, p3, by rw [up_up, up_up], by rw [t_take_2]; exact hX7, r_tf_tr hf (r_tf_tr hf2 hf3)⟩
      ·
        refine ca_iload_n h dX12_number_38 rfl ?_
        refine ca_iload_n h dX12_number_39 rfl ?_
        refine ca_iload_n h dX12_number_40 rfl ?_
        refine ca_si h hG ms_X12_73 (c_X12_inRange) rfl rfl rfl rfl ⟨Nat.le_refl _, Nat.le_refl _⟩ rfl dX12_number_41 ?_
        refine ca_if_eq (tgt := 51) h dX12_number_44 (by decide) (fun c_44 => ?_) (fun c_44 => ?_)
        ·
          refine ca_iconst h dX12_number_51 ik_0 ?_
          have e52 : r_chk q1 0 2 = r_q2 q lo hi := by
            rw [show r_chk q1 0 2 = t_fail q1 2 from rfl]
            unfold r_q2
            rw [← hq1]
            obtain ⟨g1, g2⟩ := r_q1_k (q := q) (by rw [← hq1]; exact c_35)
            have hk2 : q1 12 0 7 = 2 := by rw [hq1, g2]; exact g1
            have hin := r_num_in hX9 hk2 (lo := lo) hh
            rw [if_neg (fun z => z c_35)]
            have c9 := of_decide_eq_false (bI_0.mp c_44)
            rw [if_pos hk2] at c9
            rw [if_pos (hin.1.mpr c9)]
          refine ca_iconst h dX12_number_52 ik_2 ?_
          refine ca_vXv h hG ml_X12_328 (c_X12_check hs (q := q1) (by rw [up_s]; exact hX9)) (ci := 12) rfl rfl rfl (hs.1 _ _ _ ⟨rfl, rfl⟩) rfl rfl rfl rfl ⟨Nat.le_refl _, Nat.le_refl _⟩ rfl dX12_number_53 ?_
          intro μ9 hμ9
          obtain ⟨p2, rfl, hX8, hf2⟩ := hμ9
          rw [e52] at hX8
          rw [up_s] at hf2
          refine ca_aload_nr h dX12_number_56 rfl ?_
          refine ca_vXv h hG ml_X12_332 (c_X12_advance hs (q := r_q2 q lo hi) (by rw [up_s]; exact hX8)) (ci := 12) rfl rfl rfl (hs.1 _ _ _ ⟨rfl, rfl⟩) rfl rfl rfl rfl ⟨Nat.le_refl _, Nat.le_refl _⟩ rfl dX12_number_57 ?_
          intro μ9 hμ9
          obtain ⟨p3, rfl, hX7, hf3⟩ := hμ9
          rw [up_s] at hf3
          refine ca_aload_nr h dX12_number_60 rfl ?_
          refine gi_X12_301 h (hs.1 _ _ _ ⟨rfl, rfl⟩) dX12_number_61 ?_
          refine ca_top (show _ = (t_adv (r_q2 q lo hi)) 12 0 1 by rw [up_s]; exact hX7.1.2.2.1) ?_
          refine ca_if_ne (tgt := 71) h dX12_number_64 (by decide) (fun c_64 => ?_) (fun c_64 => ?_)
          ·
            refine ca_iload_n h dX12_number_71 rfl ?_
            refine ca_ireturn h hR rfl dX12_number_72 ?_
            have ea : (t_take q lo hi).1 = lo := by
              rw [t_take_1]
              rw [if_neg (by rw [← t_adv_1 (r_q2 q lo hi)]; exact fun z => c_64 z)]
            exact ⟨by rw [ea], rfl, p3, by rw [up_up, up_up], by rw [t_take_2]; exact hX7, r_tf_tr hf (r_tf_tr hf2 hf3)⟩
          ·
            refine ca_iload_n h dX12_number_67 rfl ?_
            refine ca_goto (tgt := 72) h dX12_number_68 (by decide) ?_
            refine ca_ireturn h hR rfl dX12_number_72 ?_
            have ea : (t_take q lo hi).1 = (if q1 12 0 7 = 2 then r_num q1 (t_n q1 - t_s q1) else 0) := by
              rw [t_take_1]
              rw [if_pos (by rw [← t_adv_1 (r_q2 q lo hi)]; exact c_64), ← hq1]
              have h0 : (r_q2 q lo hi) 12 0 1 = 0 := by rw [← t_adv_1 (r_q2 q lo hi)]; exact c_64
              have h1 : q1 12 0 1 = 0 := by
                refine Classical.byContradiction fun z => ?_
                unfold r_q2 at h0
                rw [← hq1, if_pos z] at h0
                exact z h0
              obtain ⟨g1, g2⟩ := r_q1_k (q := q) (by rw [← hq1]; exact h1)
              have hk2 : q1 12 0 7 = 2 := by rw [hq1, g2]; exact g1
              have hin := r_num_in hX9 hk2 (lo := lo) hh
              rw [if_pos hk2]
              refine (hin.2 ?_).symm
              refine Classical.byContradiction fun z => ?_
              have y := hin.1.mpr z
              unfold r_q2 at h0
              rw [← hq1, if_neg (fun w => w h1), if_pos y] at h0
              exact absurd h0 (t_fail_ne (by decide))
            exact ⟨by rw [ea], rfl, p3, by rw [up_up, up_up], by rw [t_take_2]; exact hX7, r_tf_tr hf (r_tf_tr hf2 hf3)⟩
        ·
          refine ca_iconst h dX12_number_47 ik_1 ?_
          refine ca_goto (tgt := 52) h dX12_number_48 (by decide) ?_
          have e52 : r_chk q1 1 2 = r_q2 q lo hi := by
            rw [show r_chk q1 1 2 = q1 from rfl]
            unfold r_q2
            rw [← hq1]
            obtain ⟨g1, g2⟩ := r_q1_k (q := q) (by rw [← hq1]; exact c_35)
            have hk2 : q1 12 0 7 = 2 := by rw [hq1, g2]; exact g1
            have hin := r_num_in hX9 hk2 (lo := lo) hh
            rw [if_neg (fun z => z c_35)]
            have c9 := of_decide_eq_true (bI_n0.mp c_44)
            rw [if_pos hk2] at c9
            rw [if_neg (fun z => hin.1.mp z c9)]
          refine ca_iconst h dX12_number_52 ik_2 ?_
          refine ca_vXv h hG ml_X12_328 (c_X12_check hs (q := q1) (by rw [up_s]; exact hX9)) (ci := 12) rfl rfl rfl (hs.1 _ _ _ ⟨rfl, rfl⟩) rfl rfl rfl rfl ⟨Nat.le_refl _, Nat.le_refl _⟩ rfl dX12_number_53 ?_
          intro μ9 hμ9
          obtain ⟨p2, rfl, hX8, hf2⟩ := hμ9
          rw [e52] at hX8
          rw [up_s] at hf2
          refine ca_aload_nr h dX12_number_56 rfl ?_
          refine ca_vXv h hG ml_X12_332 (c_X12_advance hs (q := r_q2 q lo hi) (by rw [up_s]; exact hX8)) (ci := 12) rfl rfl rfl (hs.1 _ _ _ ⟨rfl, rfl⟩) rfl rfl rfl rfl ⟨Nat.le_refl _, Nat.le_refl _⟩ rfl dX12_number_57 ?_
          intro μ9 hμ9
          obtain ⟨p3, rfl, hX7, hf3⟩ := hμ9
          rw [up_s] at hf3
          refine ca_aload_nr h dX12_number_60 rfl ?_
          refine gi_X12_301 h (hs.1 _ _ _ ⟨rfl, rfl⟩) dX12_number_61 ?_
          refine ca_top (show _ = (t_adv (r_q2 q lo hi)) 12 0 1 by rw [up_s]; exact hX7.1.2.2.1) ?_
          refine ca_if_ne (tgt := 71) h dX12_number_64 (by decide) (fun c_64 => ?_) (fun c_64 => ?_)
          ·
            refine ca_iload_n h dX12_number_71 rfl ?_
            refine ca_ireturn h hR rfl dX12_number_72 ?_
            have ea : (t_take q lo hi).1 = lo := by
              rw [t_take_1]
              rw [if_neg (by rw [← t_adv_1 (r_q2 q lo hi)]; exact fun z => c_64 z)]
            exact ⟨by rw [ea], rfl, p3, by rw [up_up, up_up], by rw [t_take_2]; exact hX7, r_tf_tr hf (r_tf_tr hf2 hf3)⟩
          ·
            refine ca_iload_n h dX12_number_67 rfl ?_
            refine ca_goto (tgt := 72) h dX12_number_68 (by decide) ?_
            refine ca_ireturn h hR rfl dX12_number_72 ?_
            have ea : (t_take q lo hi).1 = (if q1 12 0 7 = 2 then r_num q1 (t_n q1 - t_s q1) else 0) := by
              rw [t_take_1]
              rw [if_pos (by rw [← t_adv_1 (r_q2 q lo hi)]; exact c_64), ← hq1]
              have h0 : (r_q2 q lo hi) 12 0 1 = 0 := by rw [← t_adv_1 (r_q2 q lo hi)]; exact c_64
              have h1 : q1 12 0 1 = 0 := by
                refine Classical.byContradiction fun z => ?_
                unfold r_q2 at h0
                rw [← hq1, if_pos z] at h0
                exact z h0
              obtain ⟨g1, g2⟩ := r_q1_k (q := q) (by rw [← hq1]; exact h1)
              have hk2 : q1 12 0 7 = 2 := by rw [hq1, g2]; exact g1
              have hin := r_num_in hX9 hk2 (lo := lo) hh
              rw [if_pos hk2]
              refine (hin.2 ?_).symm
              refine Classical.byContradiction fun z => ?_
              have y := hin.1.mpr z
              unfold r_q2 at h0
              rw [← hq1, if_neg (fun w => w h1), if_pos y] at h0
              exact absurd h0 (t_fail_ne (by decide))
            exact ⟨by rw [ea], rfl, p3, by rw [up_up, up_up], by rw [t_take_2]; exact hX7, r_tf_tr hf (r_tf_tr hf2 hf3)⟩
    ·
      refine ca_iconst h dX12_number_16 ik_1 ?_
      refine ca_goto (tgt := 21) h dX12_number_17 (by decide) ?_
      have e21 : r_chk q 1 1 = r_q1 q := by have := r_q1_c q _ hX; rw [if_neg (fun z => z c_5), if_pos c_13] at this; exact this
      refine ca_iconst h dX12_number_21 ik_1 ?_
      refine ca_vXv h hG ml_X12_328 (c_X12_check hs hX) (ci := 12) rfl rfl rfl (hs.1 _ _ _ ⟨rfl, rfl⟩) rfl rfl rfl rfl ⟨Nat.le_refl _, Nat.le_refl _⟩ rfl dX12_number_22 ?_
      intro μ9 hμ9
      obtain ⟨p, rfl, hX9, hf⟩ := hμ9
      rw [e21] at hX9
      obtain ⟨q1, hq1⟩ : ∃ z, z = r_q1 q := ⟨_, rfl⟩
      rw [← hq1] at hX9
      refine ca_aload_nr h dX12_number_25 rfl ?_
      refine ca_vi h hG ml_X12_339 (c_X12_value hs (q := q1) (by rw [up_s]; exact hX9)) (ci := 12) rfl rfl rfl (hs.1 _ _ _ ⟨rfl, rfl⟩) rfl rfl rfl rfl ⟨Nat.le_refl _, Nat.le_refl _⟩ rfl dX12_number_26 ?_
      refine ca_istore_n h dX12_number_29 rfl ?_
      refine ca_aload_nr h dX12_number_30 rfl ?_
      refine ca_aload_nr h dX12_number_31 rfl ?_
      refine gi_X12_301 h (hs.1 _ _ _ ⟨rfl, rfl⟩) dX12_number_32 ?_
      refine ca_top (show _ = q1 12 0 1 by rw [up_s]; exact hX9.1.2.2.1) ?_
      refine ca_if_ne (tgt := 47) h dX12_number_35 (by decide) (fun c_35 => ?_) (fun c_35 => ?_)
      ·
        refine ca_iconst h dX12_number_47 ik_1 ?_
        refine ca_goto (tgt := 52) h dX12_number_48 (by decide) ?_
        have e52 : r_chk q1 1 2 = r_q2 q lo hi := by
          rw [show r_chk q1 1 2 = q1 from rfl]
          unfold r_q2
          rw [← hq1]
          rw [if_pos c_35]
        refine ca_iconst h dX12_number_52 ik_2 ?_
        refine ca_vXv h hG ml_X12_328 (c_X12_check hs (q := q1) (by rw [up_s]; exact hX9)) (ci := 12) rfl rfl rfl (hs.1 _ _ _ ⟨rfl, rfl⟩) rfl rfl rfl rfl ⟨Nat.le_refl _, Nat.le_refl _⟩ rfl dX12_number_53 ?_
        intro μ9 hμ9
        obtain ⟨p2, rfl, hX8, hf2⟩ := hμ9
        rw [e52] at hX8
        rw [up_s] at hf2
        refine ca_aload_nr h dX12_number_56 rfl ?_
        refine ca_vXv h hG ml_X12_332 (c_X12_advance hs (q := r_q2 q lo hi) (by rw [up_s]; exact hX8)) (ci := 12) rfl rfl rfl (hs.1 _ _ _ ⟨rfl, rfl⟩) rfl rfl rfl rfl ⟨Nat.le_refl _, Nat.le_refl _⟩ rfl dX12_number_57 ?_
        intro μ9 hμ9
        obtain ⟨p3, rfl, hX7, hf3⟩ := hμ9
        rw [up_s] at hf3
        refine ca_aload_nr h dX12_number_60 rfl ?_
        refine gi_X12_301 h (hs.1 _ _ _ ⟨rfl, rfl⟩) dX12_number_61 ?_
        refine ca_top (show _ = (t_adv (r_q2 q lo hi)) 12 0 1 by rw [up_s]; exact hX7.1.2.2.1) ?_
        refine ca_if_ne (tgt := 71) h dX12_number_64 (by decide) (fun c_64 => ?_) (fun c_64 => ?_)
        ·
          refine ca_iload_n h dX12_number_71 rfl ?_
          refine ca_ireturn h hR rfl dX12_number_72 ?_
          have ea : (t_take q lo hi).1 = lo := by
            rw [t_take_1]
            rw [if_neg (by rw [← t_adv_1 (r_q2 q lo hi)]; exact fun z => c_64 z)]
          exact ⟨by rw [ea], rfl, p3, by rw [up_up, up_up], by rw [t_take_2]; exact hX7, r_tf_tr hf (r_tf_tr hf2 hf3)⟩
        ·
          refine ca_iload_n h dX12_number_67 rfl ?_
          refine ca_goto (tgt := 72) h dX12_number_68 (by decide) ?_
          refine ca_ireturn h hR rfl dX12_number_72 ?_
          have ea : (t_take q lo hi).1 = (if q1 12 0 7 = 2 then r_num q1 (t_n q1 - t_s q1) else 0) := by
            rw [t_take_1]
            rw [if_pos (by rw [← t_adv_1 (r_q2 q lo hi)]; exact c_64), ← hq1]
            have h0 : (r_q2 q lo hi) 12 0 1 = 0 := by rw [← t_adv_1 (r_q2 q lo hi)]; exact c_64
            have h1 : q1 12 0 1 = 0 := by
              refine Classical.byContradiction fun z => ?_
              unfold r_q2 at h0
              rw [← hq1, if_pos z] at h0
              exact z h0
            obtain ⟨g1, g2⟩ := r_q1_k (q := q) (by rw [← hq1]; exact h1)
            have hk2 : q1 12 0 7 = 2 := by rw [hq1, g2]; exact g1
            have hin := r_num_in hX9 hk2 (lo := lo) hh
            rw [if_pos hk2]
            refine (hin.2 ?_).symm
            refine Classical.byContradiction fun z => ?_
            have y := hin.1.mpr z
            unfold r_q2 at h0
            rw [← hq1, if_neg (fun w => w h1), if_pos y] at h0
            exact absurd h0 (t_fail_ne (by decide))
          exact ⟨by rw [ea], rfl, p3, by rw [up_up, up_up], by rw [t_take_2]; exact hX7, r_tf_tr hf (r_tf_tr hf2 hf3)⟩
      ·
        refine ca_iload_n h dX12_number_38 rfl ?_
        refine ca_iload_n h dX12_number_39 rfl ?_
        refine ca_iload_n h dX12_number_40 rfl ?_
        refine ca_si h hG ms_X12_73 (c_X12_inRange) rfl rfl rfl rfl ⟨Nat.le_refl _, Nat.le_refl _⟩ rfl dX12_number_41 ?_
        refine ca_if_eq (tgt := 51) h dX12_number_44 (by decide) (fun c_44 => ?_) (fun c_44 => ?_)
        ·
          refine ca_iconst h dX12_number_51 ik_0 ?_
          have e52 : r_chk q1 0 2 = r_q2 q lo hi := by
            rw [show r_chk q1 0 2 = t_fail q1 2 from rfl]
            unfold r_q2
            rw [← hq1]
            obtain ⟨g1, g2⟩ := r_q1_k (q := q) (by rw [← hq1]; exact c_35)
            have hk2 : q1 12 0 7 = 2 := by rw [hq1, g2]; exact g1
            have hin := r_num_in hX9 hk2 (lo := lo) hh
            rw [if_neg (fun z => z c_35)]
            have c9 := of_decide_eq_false (bI_0.mp c_44)
            rw [if_pos hk2] at c9
            rw [if_pos (hin.1.mpr c9)]
          refine ca_iconst h dX12_number_52 ik_2 ?_
          refine ca_vXv h hG ml_X12_328 (c_X12_check hs (q := q1) (by rw [up_s]; exact hX9)) (ci := 12) rfl rfl rfl (hs.1 _ _ _ ⟨rfl, rfl⟩) rfl rfl rfl rfl ⟨Nat.le_refl _, Nat.le_refl _⟩ rfl dX12_number_53 ?_
          intro μ9 hμ9
          obtain ⟨p2, rfl, hX8, hf2⟩ := hμ9
          rw [e52] at hX8
          rw [up_s] at hf2
          refine ca_aload_nr h dX12_number_56 rfl ?_
          refine ca_vXv h hG ml_X12_332 (c_X12_advance hs (q := r_q2 q lo hi) (by rw [up_s]; exact hX8)) (ci := 12) rfl rfl rfl (hs.1 _ _ _ ⟨rfl, rfl⟩) rfl rfl rfl rfl ⟨Nat.le_refl _, Nat.le_refl _⟩ rfl dX12_number_57 ?_
          intro μ9 hμ9
          obtain ⟨p3, rfl, hX7, hf3⟩ := hμ9
          rw [up_s] at hf3
          refine ca_aload_nr h dX12_number_60 rfl ?_
          refine gi_X12_301 h (hs.1 _ _ _ ⟨rfl, rfl⟩) dX12_number_61 ?_
          refine ca_top (show _ = (t_adv (r_q2 q lo hi)) 12 0 1 by rw [up_s]; exact hX7.1.2.2.1) ?_
          refine ca_if_ne (tgt := 71) h dX12_number_64 (by decide) (fun c_64 => ?_) (fun c_64 => ?_)
          ·
            refine ca_iload_n h dX12_number_71 rfl ?_
            refine ca_ireturn h hR rfl dX12_number_72 ?_
            have ea : (t_take q lo hi).1 = lo := by
              rw [t_take_1]
              rw [if_neg (by rw [← t_adv_1 (r_q2 q lo hi)]; exact fun z => c_64 z)]
            exact ⟨by rw [ea], rfl, p3, by rw [up_up, up_up], by rw [t_take_2]; exact hX7, r_tf_tr hf (r_tf_tr hf2 hf3)⟩
          ·
            refine ca_iload_n h dX12_number_67 rfl ?_
            refine ca_goto (tgt := 72) h dX12_number_68 (by decide) ?_
            refine ca_ireturn h hR rfl dX12_number_72 ?_
            have ea : (t_take q lo hi).1 = (if q1 12 0 7 = 2 then r_num q1 (t_n q1 - t_s q1) else 0) := by
              rw [t_take_1]
              rw [if_pos (by rw [← t_adv_1 (r_q2 q lo hi)]; exact c_64), ← hq1]
              have h0 : (r_q2 q lo hi) 12 0 1 = 0 := by rw [← t_adv_1 (r_q2 q lo hi)]; exact c_64
              have h1 : q1 12 0 1 = 0 := by
                refine Classical.byContradiction fun z => ?_
                unfold r_q2 at h0
                rw [← hq1, if_pos z] at h0
                exact z h0
              obtain ⟨g1, g2⟩ := r_q1_k (q := q) (by rw [← hq1]; exact h1)
              have hk2 : q1 12 0 7 = 2 := by rw [hq1, g2]; exact g1
              have hin := r_num_in hX9 hk2 (lo := lo) hh
              rw [if_pos hk2]
              refine (hin.2 ?_).symm
              refine Classical.byContradiction fun z => ?_
              have y := hin.1.mpr z
              unfold r_q2 at h0
              rw [← hq1, if_neg (fun w => w h1), if_pos y] at h0
              exact absurd h0 (t_fail_ne (by decide))
            exact ⟨by rw [ea], rfl, p3, by rw [up_up, up_up], by rw [t_take_2]; exact hX7, r_tf_tr hf (r_tf_tr hf2 hf3)⟩
        ·
          refine ca_iconst h dX12_number_47 ik_1 ?_
          refine ca_goto (tgt := 52) h dX12_number_48 (by decide) ?_
          have e52 : r_chk q1 1 2 = r_q2 q lo hi := by
            rw [show r_chk q1 1 2 = q1 from rfl]
            unfold r_q2
            rw [← hq1]
            obtain ⟨g1, g2⟩ := r_q1_k (q := q) (by rw [← hq1]; exact c_35)
            have hk2 : q1 12 0 7 = 2 := by rw [hq1, g2]; exact g1
            have hin := r_num_in hX9 hk2 (lo := lo) hh
            rw [if_neg (fun z => z c_35)]
            have c9 := of_decide_eq_true (bI_n0.mp c_44)
            rw [if_pos hk2] at c9
            rw [if_neg (fun z => hin.1.mp z c9)]
          refine ca_iconst h dX12_number_52 ik_2 ?_
          refine ca_vXv h hG ml_X12_328 (c_X12_check hs (q := q1) (by rw [up_s]; exact hX9)) (ci := 12) rfl rfl rfl (hs.1 _ _ _ ⟨rfl, rfl⟩) rfl rfl rfl rfl ⟨Nat.le_refl _, Nat.le_refl _⟩ rfl dX12_number_53 ?_
          intro μ9 hμ9
          obtain ⟨p2, rfl, hX8, hf2⟩ := hμ9
          rw [e52] at hX8
          rw [up_s] at hf2
          refine ca_aload_nr h dX12_number_56 rfl ?_
          refine ca_vXv h hG ml_X12_332 (c_X12_advance hs (q := r_q2 q lo hi) (by rw [up_s]; exact hX8)) (ci := 12) rfl rfl rfl (hs.1 _ _ _ ⟨rfl, rfl⟩) rfl rfl rfl rfl ⟨Nat.le_refl _, Nat.le_refl _⟩ rfl dX12_number_57 ?_
          intro μ9 hμ9
          obtain ⟨p3, rfl, hX7, hf3⟩ := hμ9
          rw [up_s] at hf3
          refine ca_aload_nr h dX12_number_60 rfl ?_
          refine gi_X12_301 h (hs.1 _ _ _ ⟨rfl, rfl⟩) dX12_number_61 ?_
          refine ca_top (show _ = (t_adv (r_q2 q lo hi)) 12 0 1 by rw [up_s]; exact hX7.1.2.2.1) ?_
          refine ca_if_ne (tgt := 71) h dX12_number_64 (by decide) (fun c_64 => ?_) (fun c_64 => ?_)
          ·
            refine ca_iload_n h dX12_number_71 rfl ?_
            refine ca_ireturn h hR rfl dX12_number_72 ?_
            have ea : (t_take q lo hi).1 = lo := by
              rw [t_take_1]
              rw [if_neg (by rw [← t_adv_1 (r_q2 q lo hi)]; exact fun z => c_64 z)]
            exact ⟨by rw [ea], rfl, p3, by rw [up_up, up_up], by rw [t_take_2]; exact hX7, r_tf_tr hf (r_tf_tr hf2 hf3)⟩
          ·
            refine ca_iload_n h dX12_number_67 rfl ?_
            refine ca_goto (tgt := 72) h dX12_number_68 (by decide) ?_
            refine ca_ireturn h hR rfl dX12_number_72 ?_
            have ea : (t_take q lo hi).1 = (if q1 12 0 7 = 2 then r_num q1 (t_n q1 - t_s q1) else 0) := by
              rw [t_take_1]
              rw [if_pos (by rw [← t_adv_1 (r_q2 q lo hi)]; exact c_64), ← hq1]
              have h0 : (r_q2 q lo hi) 12 0 1 = 0 := by rw [← t_adv_1 (r_q2 q lo hi)]; exact c_64
              have h1 : q1 12 0 1 = 0 := by
                refine Classical.byContradiction fun z => ?_
                unfold r_q2 at h0
                rw [← hq1, if_pos z] at h0
                exact z h0
              obtain ⟨g1, g2⟩ := r_q1_k (q := q) (by rw [← hq1]; exact h1)
              have hk2 : q1 12 0 7 = 2 := by rw [hq1, g2]; exact g1
              have hin := r_num_in hX9 hk2 (lo := lo) hh
              rw [if_pos hk2]
              refine (hin.2 ?_).symm
              refine Classical.byContradiction fun z => ?_
              have y := hin.1.mpr z
              unfold r_q2 at h0
              rw [← hq1, if_neg (fun w => w h1), if_pos y] at h0
              exact absurd h0 (t_fail_ne (by decide))
            exact ⟨by rw [ea], rfl, p3, by rw [up_up, up_up], by rw [t_take_2]; exact hX7, r_tf_tr hf (r_tf_tr hf2 hf3)⟩
set_option maxHeartbeats 100000 in
theorem c_X12_existing {l : Launch} {E : ch_E} {S : ch_S} {μ : ch_M} (hs : ch_Std E S) {q : ch_N} (hX : r_X1 q (μ 16)) (hd : μ 16 24 0 0 - 1 < 100000) : ch_C E l yX12_existing cX12_existing 1 (some FieldType.int) 6 0 0 S μ [.ref (S.1 16 22 0)] (r_V (some (.int (t_take q 0 (μ 16 24 0 0 - 1)).1)) (t_take q 0 (μ 16 24 0 0 - 1)).2 S μ) := by
  refine ch_enter rfl rfl ?_
  intro X hl0 h hG hR hnm
  have h : ch_H X E RX12 cX12_existing 1 := h
  show ch_W X E 1 S μ 0 0 0 [(0, .ref (S.1 16 22 0))] []
  refine ca_aload_nr h dX12_existing_0 rfl ?_
  refine ca_iconst h dX12_existing_1 ik_0 ?_
  refine ca_aload_nr h dX12_existing_2 rfl ?_
  refine gs_X12_13 h hs ⟨rfl, rfl⟩ dX12_existing_3 ?_
  refine ca_iconst h dX12_existing_6 ik_0 ?_
  refine ca_iald h rfl (hs.1 _ _ _ ⟨rfl, rfl⟩) (vp_in_nI (n := 0) (N := 1302) (by decide) (by decide)) dX12_existing_7 ?_
  refine ca_iconst h dX12_existing_8 ik_1 ?_
  refine ca_isub h dX12_existing_9 ?_
  refine ca_vXi h hG ml_X12_342 (c_X12_number hs hX hd) (ci := 12) rfl rfl rfl (hs.1 _ _ _ ⟨rfl, rfl⟩) rfl rfl rfl rfl ⟨Nat.le_refl _, Nat.le_refl _⟩ rfl dX12_existing_10 ?_
  intro μ9 hμ9
  obtain ⟨p, rfl, hX9, hf⟩ := hμ9
  refine ca_ireturn h hR rfl dX12_existing_13 ?_
  exact ⟨rfl, rfl, p, rfl, hX9, hf⟩
set_option maxHeartbeats 100000 in
theorem c_X12_start {l : Launch} {E : ch_E} {S : ch_S} {μ : ch_M} (hs : ch_Std E S) {q : ch_N} {e : Nat} (he7 : e ≤ 700) (hb : ∀ i, i < e → μ 16 30 0 i = q 13 0 i ∧ ∃ b, b < 256 ∧ q 13 0 i = nI b) : ch_C E l yX12_start cX12_start 2 none 4 0 0 S μ [.ref (S.1 16 22 0), .int (nI e)] (ch_FX none S (fun μ' => ∃ p', μ' = up μ 16 p' ∧ r_X1 (t_open q (nI e)) p' ∧ r_tf (nw (μ 16) 22 0 20 0) p')) := by
  refine ch_enter rfl rfl ?_
  intro X hl0 h hG hR hnm
  have h : ch_H X E RX12 cX12_start 2 := h
  obtain ⟨q0, hq0⟩ : ∃ z, z = nw (nw (nw q 12 0 4 (nI e)) 12 0 6 0) 12 0 1 0 := ⟨_, rfl⟩
  have f4 : q0 12 0 4 = nI e := by rw [hq0]; simp [nw_at]
  have f6 : q0 12 0 6 = 0 := by rw [hq0]; simp [nw_at]
  have f1 : q0 12 0 1 = 0 := by rw [hq0]; simp [nw_at]
  have f13 : q0 13 = q 13 := by rw [hq0, nw_k (by decide), nw_k (by decide), nw_k (by decide)]
  have fe : t_e q0 = e := by unfold t_e; rw [f4]; exact nI_clamp (by omega)
  have fn : t_n q0 = 0 := by unfold t_n; rw [f6]; rfl
  have hk : k_tn q0 := ⟨by rw [fe]; exact f4, by rw [fe]; exact he7, by rw [fn]; exact f6, by rw [fn]; exact Nat.zero_le _⟩
  obtain ⟨p0, hp0⟩ : ∃ z, z = nw (nw (nw (nw (μ 16) 22 0 13 (nI e)) 22 0 14 0) 22 0 17 0) 22 0 20 0 := ⟨_, rfl⟩
  have hX0 : r_X0 q0 p0 := by
    refine ⟨by rw [hp0, f4]; simp [nw_at], by rw [hp0, f6]; simp [nw_at], by rw [hp0, f1]; simp [nw_at], fun i hi => ?_⟩
    rw [fe] at hi
    rw [hp0, nw_k (by decide), nw_k (by decide), nw_k (by decide), nw_k (by decide), f13]
    exact hb i hi
  have g0 : r_tf (nw (μ 16) 22 0 20 0) p0 := by
    refine ⟨fun kd hk => by rw [hp0, nw_k hk, nw_k hk, nw_k hk, nw_k hk, nw_k hk], fun j hj => ?_⟩
    rw [hp0]
    by_cases g : j = 20
    · subst g; rw [nw_at, if_pos ⟨rfl, rfl, rfl⟩, nw_at, if_pos ⟨rfl, rfl, rfl⟩]
    · rw [nw_at, if_neg (by omega), nw_at, if_neg (by omega), nw_at, if_neg (by omega), nw_at, if_neg (by omega), nw_at, if_neg (by omega)]
  show ch_W X E 2 S μ 0 0 0 [(0, .ref (S.1 16 22 0)), (1, .int (nI e))] []
  refine ca_aload_nr h dX12_start_0 rfl ?_
  refine ca_iload_n h dX12_start_1 rfl ?_
  refine pi_X12_280 h (hs.1 _ _ _ ⟨rfl, rfl⟩) dX12_start_2 ?_
  refine ca_aload_nr h dX12_start_5 rfl ?_
  refine ca_iconst h dX12_start_6 ik_0 ?_
  refine pi_X12_286 h (hs.1 _ _ _ ⟨rfl, rfl⟩) dX12_start_7 ?_
  refine ca_aload_nr h dX12_start_10 rfl ?_
  refine ca_iconst h dX12_start_11 ik_0 ?_
  refine pi_X12_301 h (hs.1 _ _ _ ⟨rfl, rfl⟩) dX12_start_12 ?_
  refine ca_aload_nr h dX12_start_15 rfl ?_
  refine ca_iconst h dX12_start_16 ik_0 ?_
  refine pi_X12_304 h (hs.1 _ _ _ ⟨rfl, rfl⟩) dX12_start_17 ?_
  refine ca_mem (μ'' := up μ 16 p0) (by rw [hp0]; simp only [ch_st_nw, up_s, up_up]) ?_
  refine ca_aload_nr h dX12_start_20 rfl ?_
  refine ca_vv h hG ml_X12_307 (c_X12_scan hs (e := t_e q0) (n := t_n q0) (by rw [up_s, hX0.1]; exact hk.1) hk.2.1 (by rw [up_s, hX0.2.1]; exact hk.2.2.1) hk.2.2.2 (fun i hi => by rw [up_s, (hX0.2.2.2 i hi).1]; obtain ⟨b, hb9, e9⟩ := (hX0.2.2.2 i hi).2; rw [e9]; exact nI_nm1 (by omega))) (ci := 12) rfl rfl rfl (hs.1 _ _ _ ⟨rfl, rfl⟩) rfl rfl rfl rfl ⟨Nat.le_refl _, Nat.le_refl _⟩ rfl dX12_start_21 ?_
  refine ca_vreturn h hR dX12_start_24 ?_
  exact ⟨rfl, rfl, _, by rw [up_up, up_s], by rw [show t_open q (nI e) = t_adv q0 by rw [hq0]; rfl]; exact r_X_adv hX0 hk f1, r_tf_tr g0 r_tf_ts⟩
set_option maxHeartbeats 100000 in
theorem c_X12_finish_ {l : Launch} {E : ch_E} {S : ch_S} {μ : ch_M} (hs : ch_Std E S) {q : ch_N} (hX : r_X1 q (μ 16)) : ch_C E l yX12_finish_ cX12_finish_ 1 (some FieldType.int) 1 0 0 S μ [.ref (S.1 16 22 0)] (ch_F (some (.int (q 12 0 1))) S (up μ 16 (nw (nw (μ 16) 22 0 12 0) 22 0 19 (if q 12 0 1 = 0 then -1 else q 12 0 5)))) := by
  refine ch_enter rfl rfl ?_
  intro X hl0 h hG hR hnm
  have h : ch_H X E RX12 cX12_finish_ 1 := h
  obtain ⟨⟨x1, x2, x3, x4⟩, x5, x6, x7, x8, x9, x10, x11⟩ := id hX
  show ch_W X E 1 S μ 0 0 0 [(0, .ref (S.1 16 22 0))] []
  refine ca_aload_nr h dX12_finish__0 rfl ?_
  refine ca_iconst h dX12_finish__1 ik_0 ?_
  refine pi_X12_277 h (hs.1 _ _ _ ⟨rfl, rfl⟩) dX12_finish__2 ?_
  refine ca_mem (μ'' := up μ 16 (nw (μ 16) 22 0 12 0)) rfl ?_
  refine ca_aload_nr h dX12_finish__5 rfl ?_
  refine ca_aload_nr h dX12_finish__6 rfl ?_
  refine gi_X12_301 h (hs.1 _ _ _ ⟨rfl, rfl⟩) dX12_finish__7 ?_
  refine ca_top (show _ = q 12 0 1 by rw [up_s, nw_at, if_neg (by omega)]; exact x3) ?_
  refine ca_if_ne (tgt := 17) h dX12_finish__10 (by decide) (fun c_10 => ?_) (fun c_10 => ?_)
  ·
    refine ca_aload_nr h dX12_finish__17 rfl ?_
    refine gi_X12_310 h (hs.1 _ _ _ ⟨rfl, rfl⟩) dX12_finish__18 ?_
    refine ca_top (show _ = (if q 12 0 1 = 0 then -1 else q 12 0 5) by rw [if_neg c_10, up_s, nw_at, if_neg (by omega)]; exact x8 c_10) ?_
    refine pi_X12_34 h (hs.1 _ _ _ ⟨rfl, rfl⟩) dX12_finish__21 ?_
    refine ca_aload_nr h dX12_finish__24 rfl ?_
    refine gi_X12_301 h (hs.1 _ _ _ ⟨rfl, rfl⟩) dX12_finish__25 ?_
    refine ca_top (show _ = q 12 0 1 by rw [ch_st_nw, up_s, up_s, nw_at, if_neg (by omega), nw_at, if_neg (by omega)]; exact x3) ?_
    refine ca_ireturn h hR rfl dX12_finish__28 ?_
    exact ⟨rfl, rfl, by rw [ch_st_nw, up_s, up_up]⟩
  ·
    refine ca_iconst h dX12_finish__13 ik_m1 ?_
    refine ca_goto (tgt := 21) h dX12_finish__14 (by decide) ?_
    refine ca_top (show _ = (if q 12 0 1 = 0 then -1 else q 12 0 5) by rw [if_pos c_10]) ?_
    refine pi_X12_34 h (hs.1 _ _ _ ⟨rfl, rfl⟩) dX12_finish__21 ?_
    refine ca_aload_nr h dX12_finish__24 rfl ?_
    refine gi_X12_301 h (hs.1 _ _ _ ⟨rfl, rfl⟩) dX12_finish__25 ?_
    refine ca_top (show _ = q 12 0 1 by rw [ch_st_nw, up_s, up_s, nw_at, if_neg (by omega), nw_at, if_neg (by omega)]; exact x3) ?_
    refine ca_ireturn h hR rfl dX12_finish__28 ?_
    exact ⟨rfl, rfl, by rw [ch_st_nw, up_s, up_up]⟩
